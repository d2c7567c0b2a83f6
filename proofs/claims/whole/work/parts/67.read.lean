-- Reader: claims of all depths
set_option maxRecDepth 100000
set_option maxHeartbeats 4000000
section Rd5
variable {G : Gam} {rp T : Nat} {kd pl vl : Nat → Int32} {K U P : Nat → Nat}
theorem t_readClaim0 (hG : Ok G) (hrp : rp + 5 ≤ 1000000) (hT : TkR K U P T kd pl vl) : CtC G rp T kd pl vl K U P 0 := by
  intro d n z k c f0 I st hd1 hP hck
  obtain ⟨⟨h5, h6, h8⟩, ⟨hk, hc⟩, h10⟩ := id hP
  obtain ⟨hS, hR, hB⟩ := id hT
  have hT4 := hS.1
  obtain ⟨ek, ep, ev⟩ := hR k hk
  have bk := (hB k hk).1
  have hkk : (nI k).toNatClampNeg = k := nI_clamp (by omega)
  refine Tr.of2 (ls0 := [.ref rp, .int (nI (8 - 0)), dead, dead, dead]) hG mo_X5_readClaim (Nat.le_of_ble_eq_true rfl) rfl ?_
  intro X hi hd hXn hXz hXf hQ
  have ref3 : (K k = 40 ∨ K k = 264) → ∀ s, V G X 23 [.ref rp, .int (nI (8 - 0)), .int (nI s), dead, dead] [] n z (rM f0 rp I kd pl vl st) := by
    intro q s
    have hp : pC K U 0 k = .inl (3, k) := by unfold pC; rw [if_pos q]
    rw [hp] at hQ
    refine wp_sound (by rw [hi]; exact ok_X5_readClaim) (hd := [34, 45, 52, 61, 81, 88, 96, 102, 140, 145, 152, 156, 187]) 400 _ _ _ _ _ _ ?_
    simp (disch := omega) only [wp, stp, List.mem_cons, List.not_mem_nil, Nat.reduceEqDiff, or_false, or_self, false_or, or_true, true_or, Nat.reduceAdd, ↓reduceIte, List.getElem?_cons_zero, List.getElem?_cons_succ, nthV, List.set_cons_zero, List.set_cons_succ, noL, popA, catS, Value.category, List.length_cons, List.length_nil, Nat.reduceLT, Nat.reduceLeDiff, true_and, and_true, one0, zer1, imp_t, imp_f, ofN_nI, sdead, f20, f21, not_true_eq_false, upC_self, upC_ne, upC_upC, retC, fitC, isRefT, Option.toList_some, Option.toList_none, List.cons_append, List.nil_append, Nat.lt_add_one, Nat.zero_lt_succ, Nat.le_refl, Nat.add_zero, Nat.zero_add, Nat.one_ne_zero, Nat.zero_ne_one, Nat.lt_irrefl, List.length_set, fa_X5_readClaim, hi, hd, hQ, mr_X5_readClaim, rM_0, rM_1, rM_2, rM_3, rM_4, ru_0, ru_1, ru_2, ru_3, ru_4, rO_len, rg_0, rg_1, rg_2, rg_3, rg_4, rg_5, rg_6, rg_7, rg_8, rg_9, rg_10, rs_0, rs_1, rs_5, rs_6, rs_8, rs_9, rs_10]
    try simp only [m1f]
    try simp (disch := omega) only [nmod, nI_leI, nI_ltI, nI_eq, nI_clamp, vin_nI, nI_1, fa_lit, nI_add, nI_rm3, nI_rm2, pk_rem, pk_mul, pk_sub, pk_div, nI_eM, nI_Me, nI_pM, nI_pMz, nI_pM0, M1_lt, M1_le, nI_ltM, nI_leM, i8_nI, true_and, and_true, false_implies, true_implies, not_false_eq_true, not_true_eq_false, ne_eq, implies_true, Nat.not_lt_zero, Nat.zero_le, ite_min, max0, Nat.reduceLT, Nat.reduceLeDiff, Nat.reduceEqDiff, Nat.reduceAdd, Nat.reduceMul]
    try simp only [m1u]
    refine ⟨fun h => absurd h (by omega), fun _ => ⟨by omega, _, t_refuse hG hrp h6 (by omega) 3, ?_⟩⟩
    rintro v n2 z2 f2 ⟨rfl, rfl, rfl, rfl⟩
    refine wp_sound (by rw [hi]; exact ok_X5_readClaim) (hd := [34, 45, 52, 61, 81, 88, 96, 102, 140, 145, 152, 156, 187]) 400 _ _ _ _ _ _ ?_
    simp (disch := omega) only [wp, stp, List.mem_cons, List.not_mem_nil, Nat.reduceEqDiff, or_false, or_self, false_or, or_true, true_or, Nat.reduceAdd, ↓reduceIte, List.getElem?_cons_zero, List.getElem?_cons_succ, nthV, List.set_cons_zero, List.set_cons_succ, noL, popA, catS, Value.category, List.length_cons, List.length_nil, Nat.reduceLT, Nat.reduceLeDiff, true_and, and_true, one0, zer1, imp_t, imp_f, ofN_nI, sdead, f20, f21, not_true_eq_false, upC_self, upC_ne, upC_upC, retC, fitC, isRefT, Option.toList_some, Option.toList_none, List.cons_append, List.nil_append, Nat.lt_add_one, Nat.zero_lt_succ, Nat.le_refl, Nat.add_zero, Nat.zero_add, Nat.one_ne_zero, Nat.zero_ne_one, Nat.lt_irrefl, List.length_set, fa_X5_readClaim, hi, hd, hQ, mr_X5_readClaim, rM_0, rM_1, rM_2, rM_3, rM_4, ru_0, ru_1, ru_2, ru_3, ru_4, rO_len, rg_0, rg_1, rg_2, rg_3, rg_4, rg_5, rg_6, rg_7, rg_8, rg_9, rg_10, rs_0, rs_1, rs_5, rs_6, rs_8, rs_9, rs_10]
    exact RdP.err rfl ep h8 hc
  by_cases q40 : K k = 40
  · have L := ref3 (Or.inl q40) 40
    rw [q40] at ek
    refine wp_sound (by rw [hi]; exact ok_X5_readClaim) (hd := [23, 34, 45, 52, 61, 81, 88, 96, 102, 140, 145, 152, 156, 187]) 400 _ _ _ _ _ _ ?_
    simp (disch := omega) only [wp, stp, List.mem_cons, List.not_mem_nil, Nat.reduceEqDiff, or_false, or_self, false_or, or_true, true_or, Nat.reduceAdd, ↓reduceIte, List.getElem?_cons_zero, List.getElem?_cons_succ, nthV, List.set_cons_zero, List.set_cons_succ, noL, popA, catS, Value.category, List.length_cons, List.length_nil, Nat.reduceLT, Nat.reduceLeDiff, true_and, and_true, one0, zer1, imp_t, imp_f, ofN_nI, sdead, f20, f21, not_true_eq_false, upC_self, upC_ne, upC_upC, retC, fitC, isRefT, Option.toList_some, Option.toList_none, List.cons_append, List.nil_append, Nat.lt_add_one, Nat.zero_lt_succ, Nat.le_refl, Nat.add_zero, Nat.zero_add, Nat.one_ne_zero, Nat.zero_ne_one, Nat.lt_irrefl, List.length_set, fa_X5_readClaim, hi, hd, hQ, mr_X5_readClaim, h6, hkk, ek, rM_0, rM_1, rM_2, rM_3, rM_4, ru_0, ru_1, ru_2, ru_3, ru_4, rO_len, rg_0, rg_1, rg_2, rg_3, rg_4, rg_5, rg_6, rg_7, rg_8, rg_9, rg_10, rs_0, rs_1, rs_5, rs_6, rs_8, rs_9, rs_10]
    try simp only [m1f]
    try simp (disch := omega) only [nmod, nI_leI, nI_ltI, nI_eq, nI_clamp, vin_nI, nI_1, fa_lit, nI_add, nI_rm3, nI_rm2, pk_rem, pk_mul, pk_sub, pk_div, nI_eM, nI_Me, nI_pM, nI_pMz, nI_pM0, M1_lt, M1_le, nI_ltM, nI_leM, i8_nI, true_and, and_true, false_implies, true_implies, not_false_eq_true, not_true_eq_false, ne_eq, implies_true, Nat.not_lt_zero, Nat.zero_le, ite_min, max0, Nat.reduceLT, Nat.reduceLeDiff, Nat.reduceEqDiff, Nat.reduceAdd, Nat.reduceMul]
    try simp only [m1u]
    exact ⟨by omega, L⟩
  · by_cases q264 : K k = 264
    · have L := ref3 (Or.inr q264) 264
      rw [q264] at ek
      refine wp_sound (by rw [hi]; exact ok_X5_readClaim) (hd := [23, 34, 45, 52, 61, 81, 88, 96, 102, 140, 145, 152, 156, 187]) 400 _ _ _ _ _ _ ?_
      simp (disch := omega) only [wp, stp, List.mem_cons, List.not_mem_nil, Nat.reduceEqDiff, or_false, or_self, false_or, or_true, true_or, Nat.reduceAdd, ↓reduceIte, List.getElem?_cons_zero, List.getElem?_cons_succ, nthV, List.set_cons_zero, List.set_cons_succ, noL, popA, catS, Value.category, List.length_cons, List.length_nil, Nat.reduceLT, Nat.reduceLeDiff, true_and, and_true, one0, zer1, imp_t, imp_f, ofN_nI, sdead, f20, f21, not_true_eq_false, upC_self, upC_ne, upC_upC, retC, fitC, isRefT, Option.toList_some, Option.toList_none, List.cons_append, List.nil_append, Nat.lt_add_one, Nat.zero_lt_succ, Nat.le_refl, Nat.add_zero, Nat.zero_add, Nat.one_ne_zero, Nat.zero_ne_one, Nat.lt_irrefl, List.length_set, fa_X5_readClaim, hi, hd, hQ, mr_X5_readClaim, h6, hkk, ek, rM_0, rM_1, rM_2, rM_3, rM_4, ru_0, ru_1, ru_2, ru_3, ru_4, rO_len, rg_0, rg_1, rg_2, rg_3, rg_4, rg_5, rg_6, rg_7, rg_8, rg_9, rg_10, rs_0, rs_1, rs_5, rs_6, rs_8, rs_9, rs_10]
      try simp only [m1f]
      try simp (disch := omega) only [nmod, nI_leI, nI_ltI, nI_eq, nI_clamp, vin_nI, nI_1, fa_lit, nI_add, nI_rm3, nI_rm2, pk_rem, pk_mul, pk_sub, pk_div, nI_eM, nI_Me, nI_pM, nI_pMz, nI_pM0, M1_lt, M1_le, nI_ltM, nI_leM, i8_nI, true_and, and_true, false_implies, true_implies, not_false_eq_true, not_true_eq_false, ne_eq, implies_true, Nat.not_lt_zero, Nat.zero_le, ite_min, max0, Nat.reduceLT, Nat.reduceLeDiff, Nat.reduceEqDiff, Nat.reduceAdd, Nat.reduceMul]
      try simp only [m1u]
      exact ⟨by omega, L⟩
    · have hp : pC K U 0 k = pCm K U k := by unfold pC; rw [if_neg (by omega)]
      rw [hp] at hQ
      have L := claim_cmp (r := 0) (o := 8) (u3 := dead) (u4 := dead) (kk := nI (K k)) hG hrp hT (by omega) (by omega) hP hck hi hd hQ rfl
      refine wp_sound (by rw [hi]; exact ok_X5_readClaim) (hd := [23, 34, 45, 52, 61, 81, 88, 96, 98, 102, 140, 145, 152, 156, 187]) 400 _ _ _ _ _ _ ?_
      simp (disch := omega) only [wp, stp, List.mem_cons, List.not_mem_nil, Nat.reduceEqDiff, or_false, or_self, false_or, or_true, true_or, Nat.reduceAdd, ↓reduceIte, List.getElem?_cons_zero, List.getElem?_cons_succ, nthV, List.set_cons_zero, List.set_cons_succ, noL, popA, catS, Value.category, List.length_cons, List.length_nil, Nat.reduceLT, Nat.reduceLeDiff, true_and, and_true, one0, zer1, imp_t, imp_f, ofN_nI, sdead, f20, f21, not_true_eq_false, upC_self, upC_ne, upC_upC, retC, fitC, isRefT, Option.toList_some, Option.toList_none, List.cons_append, List.nil_append, Nat.lt_add_one, Nat.zero_lt_succ, Nat.le_refl, Nat.add_zero, Nat.zero_add, Nat.one_ne_zero, Nat.zero_ne_one, Nat.lt_irrefl, List.length_set, fa_X5_readClaim, hi, hd, hQ, mr_X5_readClaim, h6, hkk, ek, rM_0, rM_1, rM_2, rM_3, rM_4, ru_0, ru_1, ru_2, ru_3, ru_4, rO_len, rg_0, rg_1, rg_2, rg_3, rg_4, rg_5, rg_6, rg_7, rg_8, rg_9, rg_10, rs_0, rs_1, rs_5, rs_6, rs_8, rs_9, rs_10]
      try simp only [m1f]
      try simp (disch := omega) only [nmod, nI_leI, nI_ltI, nI_eq, nI_clamp, vin_nI, nI_1, fa_lit, nI_add, nI_rm3, nI_rm2, pk_rem, pk_mul, pk_sub, pk_div, nI_eM, nI_Me, nI_pM, nI_pMz, nI_pM0, M1_lt, M1_le, nI_ltM, nI_leM, i8_nI, true_and, and_true, false_implies, true_implies, not_false_eq_true, not_true_eq_false, ne_eq, implies_true, Nat.not_lt_zero, Nat.zero_le, ite_min, max0, Nat.reduceLT, Nat.reduceLeDiff, Nat.reduceEqDiff, Nat.reduceAdd, Nat.reduceMul]
      try simp only [m1u]
      repeat' (with_reducible first | apply And.intro | intro)
      all_goals first | exact L | contradiction | omega
theorem t_readClaimS (hG : Ok G) (hrp : rp + 5 ≤ 1000000) (hT : TkR K U P T kd pl vl) {r : Nat} (hr8 : r + 1 ≤ 8) (hC : CtC G rp T kd pl vl K U P r) (hE : CtB G rp T kd pl vl K U P r) : CtC G rp T kd pl vl K U P (r + 1) := by
  intro d n z k c f0 I st hd1 hP hck
  obtain ⟨⟨h5, h6, h8⟩, ⟨hk, hc⟩, h10⟩ := id hP
  obtain ⟨hS, hR, hB⟩ := id hT
  have hT4 := hS.1
  obtain ⟨ek, ep, ev⟩ := hR k hk
  have bk := (hB k hk).1
  have hkk : (nI k).toNatClampNeg = k := nI_clamp (by omega)
  have e8 : 8 - (r + 1) + 1 = 8 - r := by omega
  obtain ⟨o, ho⟩ : ∃ o, o = 8 - (r + 1) := ⟨_, rfl⟩
  rw [← ho] at e8 ⊢
  have ho8 : o < 8 := by omega
  have hP2 : k < T → PSt T (upd I 6 (nI (k + 1))) (k + 1) c := fun hkT => ⟨⟨h5, rfl, h8⟩, ⟨by omega, hc⟩, h10⟩
  have hI2 : SmI I (upd I 6 (nI (k + 1))) := fun j a1 a2 a3 => by rw [upd_ap, if_neg a1]
  refine Tr.of2 (ls0 := [.ref rp, .int (nI o), dead, dead, dead]) hG mo_X5_readClaim (Nat.le_of_ble_eq_true rfl) rfl ?_
  intro X hi hd hXn hXz hXf hQ
  by_cases q40 : K k = 40
  · have hkT := hS.lt hk (by omega)
    rw [q40] at ek
    refine wp_sound (by rw [hi]; exact ok_X5_readClaim) (hd := [34, 45, 52, 61, 81, 88, 96, 102, 140, 145, 152, 156, 187]) 400 _ _ _ _ _ _ ?_
    simp (disch := omega) only [wp, stp, List.mem_cons, List.not_mem_nil, Nat.reduceEqDiff, or_false, or_self, false_or, or_true, true_or, Nat.reduceAdd, ↓reduceIte, List.getElem?_cons_zero, List.getElem?_cons_succ, nthV, List.set_cons_zero, List.set_cons_succ, noL, popA, catS, Value.category, List.length_cons, List.length_nil, Nat.reduceLT, Nat.reduceLeDiff, true_and, and_true, one0, zer1, imp_t, imp_f, ofN_nI, sdead, f20, f21, not_true_eq_false, upC_self, upC_ne, upC_upC, retC, fitC, isRefT, Option.toList_some, Option.toList_none, List.cons_append, List.nil_append, Nat.lt_add_one, Nat.zero_lt_succ, Nat.le_refl, Nat.add_zero, Nat.zero_add, Nat.one_ne_zero, Nat.zero_ne_one, Nat.lt_irrefl, List.length_set, fa_X5_readClaim, hi, hd, hQ, mr_X5_readClaim, h6, hkk, ek, rM_0, rM_1, rM_2, rM_3, rM_4, ru_0, ru_1, ru_2, ru_3, ru_4, rO_len, rg_0, rg_1, rg_2, rg_3, rg_4, rg_5, rg_6, rg_7, rg_8, rg_9, rg_10, rs_0, rs_1, rs_5, rs_6, rs_8, rs_9, rs_10]
    try simp only [m1f]
    try simp (disch := omega) only [nmod, nI_leI, nI_ltI, nI_eq, nI_clamp, vin_nI, nI_1, fa_lit, nI_add, nI_rm3, nI_rm2, pk_rem, pk_mul, pk_sub, pk_div, nI_eM, nI_Me, nI_pM, nI_pMz, nI_pM0, M1_lt, M1_le, nI_ltM, nI_leM, i8_nI, true_and, and_true, false_implies, true_implies, not_false_eq_true, not_true_eq_false, ne_eq, implies_true, Nat.not_lt_zero, Nat.zero_le, ite_min, max0, Nat.reduceLT, Nat.reduceLeDiff, Nat.reduceEqDiff, Nat.reduceAdd, Nat.reduceMul]
    try simp only [m1u]
    refine ⟨by omega, fun _ => ⟨by omega, _, t_goOn hG hrp hP hT4 hkT, ?_⟩, fun h => absurd ho8 h⟩
    rintro v n1 z1 f1 ⟨rfl, rfl, rfl, rfl⟩
    refine wp_sound (by rw [hi]; exact ok_X5_readClaim) (hd := [34, 45, 52, 61, 81, 88, 96, 102, 140, 145, 152, 156, 187]) 400 _ _ _ _ _ _ ?_
    simp (disch := omega) only [wp, stp, List.mem_cons, List.not_mem_nil, Nat.reduceEqDiff, or_false, or_self, false_or, or_true, true_or, Nat.reduceAdd, ↓reduceIte, List.getElem?_cons_zero, List.getElem?_cons_succ, nthV, List.set_cons_zero, List.set_cons_succ, noL, popA, catS, Value.category, List.length_cons, List.length_nil, Nat.reduceLT, Nat.reduceLeDiff, true_and, and_true, one0, zer1, imp_t, imp_f, ofN_nI, sdead, f20, f21, not_true_eq_false, upC_self, upC_ne, upC_upC, retC, fitC, isRefT, Option.toList_some, Option.toList_none, List.cons_append, List.nil_append, Nat.lt_add_one, Nat.zero_lt_succ, Nat.le_refl, Nat.add_zero, Nat.zero_add, Nat.one_ne_zero, Nat.zero_ne_one, Nat.lt_irrefl, List.length_set, fa_X5_readClaim, hi, hd, hQ, mr_X5_readClaim, rM_0, rM_1, rM_2, rM_3, rM_4, ru_0, ru_1, ru_2, ru_3, ru_4, rO_len, rg_0, rg_1, rg_2, rg_3, rg_4, rg_5, rg_6, rg_7, rg_8, rg_9, rg_10, rs_0, rs_1, rs_5, rs_6, rs_8, rs_9, rs_10]
    try simp only [m1f]
    try simp (disch := omega) only [nmod, nI_leI, nI_ltI, nI_eq, nI_clamp, vin_nI, nI_1, fa_lit, nI_add, nI_rm3, nI_rm2, pk_rem, pk_mul, pk_sub, pk_div, nI_eM, nI_Me, nI_pM, nI_pMz, nI_pM0, M1_lt, M1_le, nI_ltM, nI_leM, i8_nI, true_and, and_true, false_implies, true_implies, not_false_eq_true, not_true_eq_false, ne_eq, implies_true, Nat.not_lt_zero, Nat.zero_le, ite_min, max0, Nat.reduceLT, Nat.reduceLeDiff, Nat.reduceEqDiff, Nat.reduceAdd, Nat.reduceMul]
    try simp only [m1u]
    rw [e8]
    refine ⟨by omega, _, hE (d - 1) n1 z1 (k + 1) c f0 _ st (by omega) (hP2 hkT) (by omega), ?_⟩
    intro v n2 z2 f2 hr
    cases hu : pBo K (pC K U r) (k + 1) with
    | inl e =>
      have hp : pC K U (r + 1) k = .inl e := by rw [pC, if_pos q40, hu]
      rw [hu] at hr
      rw [hp] at hQ
      obtain ⟨⟨rfl, rfl⟩, rfl, I', st', c', rfl, ⟨r0, r1⟩, r8, rc⟩ := hr
      refine wp_sound (by rw [hi]; exact ok_X5_readClaim) (hd := [34, 45, 52, 61, 81, 88, 96, 102, 140, 145, 152, 156, 187]) 400 _ _ _ _ _ _ ?_
      simp (disch := omega) only [wp, stp, List.mem_cons, List.not_mem_nil, Nat.reduceEqDiff, or_false, or_self, false_or, or_true, true_or, Nat.reduceAdd, ↓reduceIte, List.getElem?_cons_zero, List.getElem?_cons_succ, nthV, List.set_cons_zero, List.set_cons_succ, noL, popA, catS, Value.category, List.length_cons, List.length_nil, Nat.reduceLT, Nat.reduceLeDiff, true_and, and_true, one0, zer1, imp_t, imp_f, ofN_nI, sdead, f20, f21, not_true_eq_false, upC_self, upC_ne, upC_upC, retC, fitC, isRefT, Option.toList_some, Option.toList_none, List.cons_append, List.nil_append, Nat.lt_add_one, Nat.zero_lt_succ, Nat.le_refl, Nat.add_zero, Nat.zero_add, Nat.one_ne_zero, Nat.zero_ne_one, Nat.lt_irrefl, List.length_set, fa_X5_readClaim, hi, hd, hQ, mr_X5_readClaim, rM_0, rM_1, rM_2, rM_3, rM_4, ru_0, ru_1, ru_2, ru_3, ru_4, rO_len, rg_0, rg_1, rg_2, rg_3, rg_4, rg_5, rg_6, rg_7, rg_8, rg_9, rg_10, rs_0, rs_1, rs_5, rs_6, rs_8, rs_9, rs_10]
      intro _
      obtain ⟨why, jj⟩ := e
      exact RdP.err r0 r1 r8 rc
    | inr qq =>
      obtain ⟨k2, b⟩ := qq
      obtain ⟨⟨e1, e2⟩, -⟩ := pBo_ok hS (pC_ok hS r) (show k + 1 ≤ T by omega) k2 b hu
      rw [hu] at hr
      obtain ⟨⟨rfl, rfl⟩, rfl, I', st', c', rfl, rI, ⟨r6, r8, r10⟩, rst, ⟨rsg, rcb⟩, rrun⟩ := hr
      have rlt := rsg.1
      have hP3 : PSt T I' k2 c' := ⟨⟨by rw [rI 5 (by omega) (by omega) (by omega)]; exact h5, r6, r8⟩, ⟨e2, by omega⟩, by rw [r10]; exact aeU_01 h10⟩
      refine wp_sound (by rw [hi]; exact ok_X5_readClaim) (hd := [34, 45, 52, 61, 81, 88, 96, 102, 140, 145, 152, 156, 187]) 400 _ _ _ _ _ _ ?_
      simp (disch := omega) only [wp, stp, List.mem_cons, List.not_mem_nil, Nat.reduceEqDiff, or_false, or_self, false_or, or_true, true_or, Nat.reduceAdd, ↓reduceIte, List.getElem?_cons_zero, List.getElem?_cons_succ, nthV, List.set_cons_zero, List.set_cons_succ, noL, popA, catS, Value.category, List.length_cons, List.length_nil, Nat.reduceLT, Nat.reduceLeDiff, true_and, and_true, one0, zer1, imp_t, imp_f, ofN_nI, sdead, f20, f21, not_true_eq_false, upC_self, upC_ne, upC_upC, retC, fitC, isRefT, Option.toList_some, Option.toList_none, List.cons_append, List.nil_append, Nat.lt_add_one, Nat.zero_lt_succ, Nat.le_refl, Nat.add_zero, Nat.zero_add, Nat.one_ne_zero, Nat.zero_ne_one, Nat.lt_irrefl, List.length_set, fa_X5_readClaim, hi, hd, hQ, mr_X5_readClaim, rM_0, rM_1, rM_2, rM_3, rM_4, ru_0, ru_1, ru_2, ru_3, ru_4, rO_len, rg_0, rg_1, rg_2, rg_3, rg_4, rg_5, rg_6, rg_7, rg_8, rg_9, rg_10, rs_0, rs_1, rs_5, rs_6, rs_8, rs_9, rs_10]
      try simp only [m1f]
      try simp (disch := omega) only [nmod, nI_leI, nI_ltI, nI_eq, nI_clamp, vin_nI, nI_1, fa_lit, nI_add, nI_rm3, nI_rm2, pk_rem, pk_mul, pk_sub, pk_div, nI_eM, nI_Me, nI_pM, nI_pMz, nI_pM0, M1_lt, M1_le, nI_ltM, nI_leM, i8_nI, true_and, and_true, false_implies, true_implies, not_false_eq_true, not_true_eq_false, ne_eq, implies_true, Nat.not_lt_zero, Nat.zero_le, ite_min, max0, Nat.reduceLT, Nat.reduceLeDiff, Nat.reduceEqDiff, Nat.reduceAdd, Nat.reduceMul]
      try simp only [m1u]
      refine ⟨by omega, _, t_readSign hG (by omega) hrp hT hP3 (s := 41) (by omega), ?_⟩
      rintro v n3 z3 f3 ⟨⟨rfl, rfl⟩, h⟩
      rcases h with ⟨h1, h2, rfl, rfl⟩ | ⟨h1, rfl, rfl⟩
      · have hp : pC K U (r + 1) k = .inr (k2 + 1, b) := by rw [pC, if_pos q40, hu]; dsimp only; rw [if_pos h1]
        rw [hp] at hQ
        refine wp_sound (by rw [hi]; exact ok_X5_readClaim) (hd := [34, 45, 52, 61, 81, 88, 96, 102, 140, 145, 152, 156, 187]) 400 _ _ _ _ _ _ ?_
        simp (disch := omega) only [wp, stp, List.mem_cons, List.not_mem_nil, Nat.reduceEqDiff, or_false, or_self, false_or, or_true, true_or, Nat.reduceAdd, ↓reduceIte, List.getElem?_cons_zero, List.getElem?_cons_succ, nthV, List.set_cons_zero, List.set_cons_succ, noL, popA, catS, Value.category, List.length_cons, List.length_nil, Nat.reduceLT, Nat.reduceLeDiff, true_and, and_true, one0, zer1, imp_t, imp_f, ofN_nI, sdead, f20, f21, not_true_eq_false, upC_self, upC_ne, upC_upC, retC, fitC, isRefT, Option.toList_some, Option.toList_none, List.cons_append, List.nil_append, Nat.lt_add_one, Nat.zero_lt_succ, Nat.le_refl, Nat.add_zero, Nat.zero_add, Nat.one_ne_zero, Nat.zero_ne_one, Nat.lt_irrefl, List.length_set, fa_X5_readClaim, hi, hd, hQ, mr_X5_readClaim, rM_0, rM_1, rM_2, rM_3, rM_4, ru_0, ru_1, ru_2, ru_3, ru_4, rO_len, rg_0, rg_1, rg_2, rg_3, rg_4, rg_5, rg_6, rg_7, rg_8, rg_9, rg_10, rs_0, rs_1, rs_5, rs_6, rs_8, rs_9, rs_10]
        have ha1 := ae_step (I := I) (I1 := I) (I2 := upd I 6 (nI (k + 1))) (K := K) (U := U) (a := k) (b := k) (by rw [aeU_f evR.nil]) rfl (Nat.le_refl _) (by omega)
        have ha2 := ae_join ha1 r10 (by omega) (by omega)
        refine ⟨⟨rfl, rfl⟩, rfl, _, _, c', rfl, (hI2.trans rI).trans (fun j a1 a2 a3 => by rw [upd_ap, if_neg a1]), ⟨rfl, r8, ae_step ha2 rfl (by omega) (by omega)⟩, rst, ⟨rsg, by omega⟩, fun F R t ht htl => rrun F R t ht (Nat.lt_of_lt_of_le htl (Nat.pow_le_pow_right (by omega) (by omega)))⟩
      · have hp : pC K U (r + 1) k = .inl (1, k2) := by rw [pC, if_pos q40, hu]; dsimp only; rw [if_neg h1]
        rw [hp] at hQ
        refine wp_sound (by rw [hi]; exact ok_X5_readClaim) (hd := [34, 45, 52, 61, 81, 88, 96, 102, 140, 145, 152, 156, 187]) 400 _ _ _ _ _ _ ?_
        simp (disch := omega) only [wp, stp, List.mem_cons, List.not_mem_nil, Nat.reduceEqDiff, or_false, or_self, false_or, or_true, true_or, Nat.reduceAdd, ↓reduceIte, List.getElem?_cons_zero, List.getElem?_cons_succ, nthV, List.set_cons_zero, List.set_cons_succ, noL, popA, catS, Value.category, List.length_cons, List.length_nil, Nat.reduceLT, Nat.reduceLeDiff, true_and, and_true, one0, zer1, imp_t, imp_f, ofN_nI, sdead, f20, f21, not_true_eq_false, upC_self, upC_ne, upC_upC, retC, fitC, isRefT, Option.toList_some, Option.toList_none, List.cons_append, List.nil_append, Nat.lt_add_one, Nat.zero_lt_succ, Nat.le_refl, Nat.add_zero, Nat.zero_add, Nat.one_ne_zero, Nat.zero_ne_one, Nat.lt_irrefl, List.length_set, fa_X5_readClaim, hi, hd, hQ, mr_X5_readClaim, rM_0, rM_1, rM_2, rM_3, rM_4, ru_0, ru_1, ru_2, ru_3, ru_4, rO_len, rg_0, rg_1, rg_2, rg_3, rg_4, rg_5, rg_6, rg_7, rg_8, rg_9, rg_10, rs_0, rs_1, rs_5, rs_6, rs_8, rs_9, rs_10]
        intro _
        exact RdP.err rfl rfl r8 (by omega)
  · by_cases q264 : K k = 264
    · have hkT := hS.lt hk (by omega)
      rw [q264] at ek
      refine wp_sound (by rw [hi]; exact ok_X5_readClaim) (hd := [34, 45, 52, 61, 81, 88, 96, 102, 140, 145, 152, 156, 187]) 400 _ _ _ _ _ _ ?_
      simp (disch := omega) only [wp, stp, List.mem_cons, List.not_mem_nil, Nat.reduceEqDiff, or_false, or_self, false_or, or_true, true_or, Nat.reduceAdd, ↓reduceIte, List.getElem?_cons_zero, List.getElem?_cons_succ, nthV, List.set_cons_zero, List.set_cons_succ, noL, popA, catS, Value.category, List.length_cons, List.length_nil, Nat.reduceLT, Nat.reduceLeDiff, true_and, and_true, one0, zer1, imp_t, imp_f, ofN_nI, sdead, f20, f21, not_true_eq_false, upC_self, upC_ne, upC_upC, retC, fitC, isRefT, Option.toList_some, Option.toList_none, List.cons_append, List.nil_append, Nat.lt_add_one, Nat.zero_lt_succ, Nat.le_refl, Nat.add_zero, Nat.zero_add, Nat.one_ne_zero, Nat.zero_ne_one, Nat.lt_irrefl, List.length_set, fa_X5_readClaim, hi, hd, hQ, mr_X5_readClaim, h6, hkk, ek, rM_0, rM_1, rM_2, rM_3, rM_4, ru_0, ru_1, ru_2, ru_3, ru_4, rO_len, rg_0, rg_1, rg_2, rg_3, rg_4, rg_5, rg_6, rg_7, rg_8, rg_9, rg_10, rs_0, rs_1, rs_5, rs_6, rs_8, rs_9, rs_10]
      try simp only [m1f]
      try simp (disch := omega) only [nmod, nI_leI, nI_ltI, nI_eq, nI_clamp, vin_nI, nI_1, fa_lit, nI_add, nI_rm3, nI_rm2, pk_rem, pk_mul, pk_sub, pk_div, nI_eM, nI_Me, nI_pM, nI_pMz, nI_pM0, M1_lt, M1_le, nI_ltM, nI_leM, i8_nI, true_and, and_true, false_implies, true_implies, not_false_eq_true, not_true_eq_false, ne_eq, implies_true, Nat.not_lt_zero, Nat.zero_le, ite_min, max0, Nat.reduceLT, Nat.reduceLeDiff, Nat.reduceEqDiff, Nat.reduceAdd, Nat.reduceMul]
      try simp only [m1u]
      refine ⟨by omega, fun _ => ⟨by omega, _, t_goOn hG hrp hP hT4 hkT, ?_⟩, fun h => absurd ho8 h⟩
      rintro v n1 z1 f1 ⟨rfl, rfl, rfl, rfl⟩
      refine wp_sound (by rw [hi]; exact ok_X5_readClaim) (hd := [34, 45, 52, 61, 81, 88, 96, 102, 140, 145, 152, 156, 187]) 400 _ _ _ _ _ _ ?_
      simp (disch := omega) only [wp, stp, List.mem_cons, List.not_mem_nil, Nat.reduceEqDiff, or_false, or_self, false_or, or_true, true_or, Nat.reduceAdd, ↓reduceIte, List.getElem?_cons_zero, List.getElem?_cons_succ, nthV, List.set_cons_zero, List.set_cons_succ, noL, popA, catS, Value.category, List.length_cons, List.length_nil, Nat.reduceLT, Nat.reduceLeDiff, true_and, and_true, one0, zer1, imp_t, imp_f, ofN_nI, sdead, f20, f21, not_true_eq_false, upC_self, upC_ne, upC_upC, retC, fitC, isRefT, Option.toList_some, Option.toList_none, List.cons_append, List.nil_append, Nat.lt_add_one, Nat.zero_lt_succ, Nat.le_refl, Nat.add_zero, Nat.zero_add, Nat.one_ne_zero, Nat.zero_ne_one, Nat.lt_irrefl, List.length_set, fa_X5_readClaim, hi, hd, hQ, mr_X5_readClaim, rM_0, rM_1, rM_2, rM_3, rM_4, ru_0, ru_1, ru_2, ru_3, ru_4, rO_len, rg_0, rg_1, rg_2, rg_3, rg_4, rg_5, rg_6, rg_7, rg_8, rg_9, rg_10, rs_0, rs_1, rs_5, rs_6, rs_8, rs_9, rs_10]
      try simp only [m1f]
      try simp (disch := omega) only [nmod, nI_leI, nI_ltI, nI_eq, nI_clamp, vin_nI, nI_1, fa_lit, nI_add, nI_rm3, nI_rm2, pk_rem, pk_mul, pk_sub, pk_div, nI_eM, nI_Me, nI_pM, nI_pMz, nI_pM0, M1_lt, M1_le, nI_ltM, nI_leM, i8_nI, true_and, and_true, false_implies, true_implies, not_false_eq_true, not_true_eq_false, ne_eq, implies_true, Nat.not_lt_zero, Nat.zero_le, ite_min, max0, Nat.reduceLT, Nat.reduceLeDiff, Nat.reduceEqDiff, Nat.reduceAdd, Nat.reduceMul]
      try simp only [m1u]
      rw [e8]
      refine ⟨by omega, _, hC (d - 1) n1 z1 (k + 1) c f0 _ st (by omega) (hP2 hkT) (by omega), ?_⟩
      intro v n2 z2 f2 hr
      cases hu : pC K U r (k + 1) with
      | inl e =>
        have hp : pC K U (r + 1) k = .inl e := by rw [pC, if_neg q40, if_pos q264, hu]
        rw [hu] at hr
        rw [hp] at hQ
        obtain ⟨⟨rfl, rfl⟩, rfl, I', st', c', rfl, ⟨r0, r1⟩, r8, rc⟩ := hr
        obtain ⟨why, jj⟩ := e
        refine wp_sound (by rw [hi]; exact ok_X5_readClaim) (hd := [34, 45, 52, 61, 81, 88, 96, 102, 140, 145, 152, 156, 187]) 400 _ _ _ _ _ _ ?_
        simp (disch := omega) only [wp, stp, List.mem_cons, List.not_mem_nil, Nat.reduceEqDiff, or_false, or_self, false_or, or_true, true_or, Nat.reduceAdd, ↓reduceIte, List.getElem?_cons_zero, List.getElem?_cons_succ, nthV, List.set_cons_zero, List.set_cons_succ, noL, popA, catS, Value.category, List.length_cons, List.length_nil, Nat.reduceLT, Nat.reduceLeDiff, true_and, and_true, one0, zer1, imp_t, imp_f, ofN_nI, sdead, f20, f21, not_true_eq_false, upC_self, upC_ne, upC_upC, retC, fitC, isRefT, Option.toList_some, Option.toList_none, List.cons_append, List.nil_append, Nat.lt_add_one, Nat.zero_lt_succ, Nat.le_refl, Nat.add_zero, Nat.zero_add, Nat.one_ne_zero, Nat.zero_ne_one, Nat.lt_irrefl, List.length_set, fa_X5_readClaim, hi, hd, hQ, mr_X5_readClaim, rM_0, rM_1, rM_2, rM_3, rM_4, ru_0, ru_1, ru_2, ru_3, ru_4, rO_len, rg_0, rg_1, rg_2, rg_3, rg_4, rg_5, rg_6, rg_7, rg_8, rg_9, rg_10, rs_0, rs_1, rs_5, rs_6, rs_8, rs_9, rs_10]
        refine ⟨by omega, _, t_addStep hG hrp r8 rc (a := 11) (b := 0) (by omega) (by omega), ?_⟩
        rintro v' n5 z5 f5 ⟨rfl, ⟨rfl, rfl⟩, h⟩
        rcases h with ⟨hl, rfl⟩ | ⟨hl, rfl⟩
        · refine wp_sound (by rw [hi]; exact ok_X5_readClaim) (hd := [34, 45, 52, 61, 81, 88, 96, 102, 140, 145, 152, 156, 187]) 400 _ _ _ _ _ _ ?_
          simp (disch := omega) only [wp, stp, List.mem_cons, List.not_mem_nil, Nat.reduceEqDiff, or_false, or_self, false_or, or_true, true_or, Nat.reduceAdd, ↓reduceIte, List.getElem?_cons_zero, List.getElem?_cons_succ, nthV, List.set_cons_zero, List.set_cons_succ, noL, popA, catS, Value.category, List.length_cons, List.length_nil, Nat.reduceLT, Nat.reduceLeDiff, true_and, and_true, one0, zer1, imp_t, imp_f, ofN_nI, sdead, f20, f21, not_true_eq_false, upC_self, upC_ne, upC_upC, retC, fitC, isRefT, Option.toList_some, Option.toList_none, List.cons_append, List.nil_append, Nat.lt_add_one, Nat.zero_lt_succ, Nat.le_refl, Nat.add_zero, Nat.zero_add, Nat.one_ne_zero, Nat.zero_ne_one, Nat.lt_irrefl, List.length_set, fa_X5_readClaim, hi, hd, hQ, mr_X5_readClaim, rM_0, rM_1, rM_2, rM_3, rM_4, ru_0, ru_1, ru_2, ru_3, ru_4, rO_len, rg_0, rg_1, rg_2, rg_3, rg_4, rg_5, rg_6, rg_7, rg_8, rg_9, rg_10, rs_0, rs_1, rs_5, rs_6, rs_8, rs_9, rs_10]
          exact RdP.err r0 r1 rfl (by omega)
        · refine wp_sound (by rw [hi]; exact ok_X5_readClaim) (hd := [34, 45, 52, 61, 81, 88, 96, 102, 140, 145, 152, 156, 187]) 400 _ _ _ _ _ _ ?_
          simp (disch := omega) only [wp, stp, List.mem_cons, List.not_mem_nil, Nat.reduceEqDiff, or_false, or_self, false_or, or_true, true_or, Nat.reduceAdd, ↓reduceIte, List.getElem?_cons_zero, List.getElem?_cons_succ, nthV, List.set_cons_zero, List.set_cons_succ, noL, popA, catS, Value.category, List.length_cons, List.length_nil, Nat.reduceLT, Nat.reduceLeDiff, true_and, and_true, one0, zer1, imp_t, imp_f, ofN_nI, sdead, f20, f21, not_true_eq_false, upC_self, upC_ne, upC_upC, retC, fitC, isRefT, Option.toList_some, Option.toList_none, List.cons_append, List.nil_append, Nat.lt_add_one, Nat.zero_lt_succ, Nat.le_refl, Nat.add_zero, Nat.zero_add, Nat.one_ne_zero, Nat.zero_ne_one, Nat.lt_irrefl, List.length_set, fa_X5_readClaim, hi, hd, hQ, mr_X5_readClaim, rM_0, rM_1, rM_2, rM_3, rM_4, ru_0, ru_1, ru_2, ru_3, ru_4, rO_len, rg_0, rg_1, rg_2, rg_3, rg_4, rg_5, rg_6, rg_7, rg_8, rg_9, rg_10, rs_0, rs_1, rs_5, rs_6, rs_8, rs_9, rs_10]
          exact RdP.err r0 r1 r8 rc
      | inr qq =>
        obtain ⟨k2, b⟩ := qq
        obtain ⟨⟨e1, e2⟩, -⟩ := pC_ok hS r (k + 1) (by omega) k2 b hu
        have hp : pC K U (r + 1) k = .inr (k2, fun F => !b F) := by rw [pC, if_neg q40, if_pos q264, hu]
        rw [hu] at hr
        rw [hp] at hQ
        obtain ⟨⟨rfl, rfl⟩, rfl, I', st', c', rfl, rI, ⟨r6, r8, r10⟩, rst, ⟨rsg, rcb⟩, rrun⟩ := hr
        have rlt := rsg.1
        refine wp_sound (by rw [hi]; exact ok_X5_readClaim) (hd := [34, 45, 52, 61, 81, 88, 96, 102, 140, 145, 152, 156, 187]) 400 _ _ _ _ _ _ ?_
        simp (disch := omega) only [wp, stp, List.mem_cons, List.not_mem_nil, Nat.reduceEqDiff, or_false, or_self, false_or, or_true, true_or, Nat.reduceAdd, ↓reduceIte, List.getElem?_cons_zero, List.getElem?_cons_succ, nthV, List.set_cons_zero, List.set_cons_succ, noL, popA, catS, Value.category, List.length_cons, List.length_nil, Nat.reduceLT, Nat.reduceLeDiff, true_and, and_true, one0, zer1, imp_t, imp_f, ofN_nI, sdead, f20, f21, not_true_eq_false, upC_self, upC_ne, upC_upC, retC, fitC, isRefT, Option.toList_some, Option.toList_none, List.cons_append, List.nil_append, Nat.lt_add_one, Nat.zero_lt_succ, Nat.le_refl, Nat.add_zero, Nat.zero_add, Nat.one_ne_zero, Nat.zero_ne_one, Nat.lt_irrefl, List.length_set, fa_X5_readClaim, hi, hd, hQ, mr_X5_readClaim, rM_0, rM_1, rM_2, rM_3, rM_4, ru_0, ru_1, ru_2, ru_3, ru_4, rO_len, rg_0, rg_1, rg_2, rg_3, rg_4, rg_5, rg_6, rg_7, rg_8, rg_9, rg_10, rs_0, rs_1, rs_5, rs_6, rs_8, rs_9, rs_10]
        refine ⟨by omega, _, t_addStep hG hrp r8 (by omega) (a := 11) (b := 0) (by omega) (by omega), ?_⟩
        rintro v' n5 z5 f5 ⟨rfl, ⟨rfl, rfl⟩, h⟩
        rcases h with ⟨hl, rfl⟩ | ⟨hl, rfl⟩
        · refine wp_sound (by rw [hi]; exact ok_X5_readClaim) (hd := [34, 45, 52, 61, 81, 88, 96, 102, 140, 145, 152, 156, 187]) 400 _ _ _ _ _ _ ?_
          simp (disch := omega) only [wp, stp, List.mem_cons, List.not_mem_nil, Nat.reduceEqDiff, or_false, or_self, false_or, or_true, true_or, Nat.reduceAdd, ↓reduceIte, List.getElem?_cons_zero, List.getElem?_cons_succ, nthV, List.set_cons_zero, List.set_cons_succ, noL, popA, catS, Value.category, List.length_cons, List.length_nil, Nat.reduceLT, Nat.reduceLeDiff, true_and, and_true, one0, zer1, imp_t, imp_f, ofN_nI, sdead, f20, f21, not_true_eq_false, upC_self, upC_ne, upC_upC, retC, fitC, isRefT, Option.toList_some, Option.toList_none, List.cons_append, List.nil_append, Nat.lt_add_one, Nat.zero_lt_succ, Nat.le_refl, Nat.add_zero, Nat.zero_add, Nat.one_ne_zero, Nat.zero_ne_one, Nat.lt_irrefl, List.length_set, fa_X5_readClaim, hi, hd, hQ, mr_X5_readClaim, rM_0, rM_1, rM_2, rM_3, rM_4, ru_0, ru_1, ru_2, ru_3, ru_4, rO_len, rg_0, rg_1, rg_2, rg_3, rg_4, rg_5, rg_6, rg_7, rg_8, rg_9, rg_10, rs_0, rs_1, rs_5, rs_6, rs_8, rs_9, rs_10]
          have ha1 := ae_step (I := I) (I1 := I) (I2 := upd I 6 (nI (k + 1))) (K := K) (U := U) (a := k) (b := k) (by rw [aeU_f evR.nil]) rfl (Nat.le_refl _) (by omega)
          obtain ⟨w1, w2⟩ := rsg.cong (st' := upd st' c' (nI (65536 * 11 + 0))) (fun i hi' => upd_lt hi')
          obtain ⟨v1, v2⟩ := seg.one (st := upd st' c' (nI (65536 * 11 + 0))) (c := c') upd_self (show 11 < 14 by omega) (show 0 < 65536 by omega)
          obtain ⟨x1, x2⟩ := w1.join v1
          refine ⟨⟨rfl, rfl⟩, rfl, _, _, c' + 1, rfl, (hI2.trans rI).trans (fun j a1 a2 a3 => by rw [upd_ap, if_neg a2]), ⟨r6, rfl, ae_join ha1 r10 (by omega) (by omega)⟩, fun i hi' => by rw [upd_lt (by omega)]; exact rst i hi', ⟨x1, by omega⟩, fun F R t ht htl => ?_⟩
          obtain ⟨p1, p2, p3, p4⟩ := rrun F R t ht (Nat.lt_of_lt_of_le htl (Nat.pow_le_pow_right (by omega) (by omega)))
          refine ⟨p1, p2, p3, ?_⟩
          rw [x2, v2, w2, p4]
          show (p1, p2, p3, R.2.2.2.1, judL _ 11 p3 p2) = _
          rw [j_not]
        · omega
    · have hp : pC K U (r + 1) k = pCm K U k := by rw [pC, if_neg q40, if_neg q264]
      rw [hp] at hQ
      have hQ2 : RdP (behB (2 * o + 2) k c) K U P f0 rp I kd pl vl st k c (pCm K U k) n z = RdP (behB (2 * (8 - (r + 1)) + 2) k c) K U P f0 rp I kd pl vl st k c (pCm K U k) n z := by rw [ho]
      have L := claim_cmp (r := r + 1) (o := o) (u3 := dead) (u4 := dead) (kk := nI (K k)) hG hrp hT (by omega) (by omega) hP hck hi hd hQ hQ2
      refine wp_sound (by rw [hi]; exact ok_X5_readClaim) (hd := [23, 34, 45, 52, 61, 81, 88, 96, 98, 102, 140, 145, 152, 156, 187]) 400 _ _ _ _ _ _ ?_
      simp (disch := omega) only [wp, stp, List.mem_cons, List.not_mem_nil, Nat.reduceEqDiff, or_false, or_self, false_or, or_true, true_or, Nat.reduceAdd, ↓reduceIte, List.getElem?_cons_zero, List.getElem?_cons_succ, nthV, List.set_cons_zero, List.set_cons_succ, noL, popA, catS, Value.category, List.length_cons, List.length_nil, Nat.reduceLT, Nat.reduceLeDiff, true_and, and_true, one0, zer1, imp_t, imp_f, ofN_nI, sdead, f20, f21, not_true_eq_false, upC_self, upC_ne, upC_upC, retC, fitC, isRefT, Option.toList_some, Option.toList_none, List.cons_append, List.nil_append, Nat.lt_add_one, Nat.zero_lt_succ, Nat.le_refl, Nat.add_zero, Nat.zero_add, Nat.one_ne_zero, Nat.zero_ne_one, Nat.lt_irrefl, List.length_set, fa_X5_readClaim, hi, hd, hQ, mr_X5_readClaim, h6, hkk, ek, rM_0, rM_1, rM_2, rM_3, rM_4, ru_0, ru_1, ru_2, ru_3, ru_4, rO_len, rg_0, rg_1, rg_2, rg_3, rg_4, rg_5, rg_6, rg_7, rg_8, rg_9, rg_10, rs_0, rs_1, rs_5, rs_6, rs_8, rs_9, rs_10]
      try simp only [m1f]
      try simp (disch := omega) only [nmod, nI_leI, nI_ltI, nI_eq, nI_clamp, vin_nI, nI_1, fa_lit, nI_add, nI_rm3, nI_rm2, pk_rem, pk_mul, pk_sub, pk_div, nI_eM, nI_Me, nI_pM, nI_pMz, nI_pM0, M1_lt, M1_le, nI_ltM, nI_leM, i8_nI, true_and, and_true, false_implies, true_implies, not_false_eq_true, not_true_eq_false, ne_eq, implies_true, Nat.not_lt_zero, Nat.zero_le, ite_min, max0, Nat.reduceLT, Nat.reduceLeDiff, Nat.reduceEqDiff, Nat.reduceAdd, Nat.reduceMul]
      try simp only [m1u]
      repeat' (with_reducible first | apply And.intro | intro)
      all_goals first | exact L | contradiction | omega
theorem t_claims (hG : Ok G) (hrp : rp + 5 ≤ 1000000) (hT : TkR K U P T kd pl vl) : ∀ r, r ≤ 8 → CtC G rp T kd pl vl K U P r ∧ CtB G rp T kd pl vl K U P r
  | 0, h => by
    have h1 := t_readClaim0 hG hrp hT
    exact ⟨h1, t_readEither hG hrp hT h (t_readBoth hG hrp hT h h1)⟩
  | r + 1, h => by
    obtain ⟨h1, h2⟩ := t_claims hG hrp hT r (by omega)
    have h3 := t_readClaimS hG hrp hT h h1 h2
    exact ⟨h3, t_readEither hG hrp hT h (t_readBoth hG hrp hT h h3)⟩
end Rd5
