-- Reader: claims, and, or
set_option maxRecDepth 100000
set_option maxHeartbeats 4000000
/-- a truth more, the latest lowest -/
def behB (bd k c : Nat) : (Nat → Int32) → Nat → Nat → BV → Prop := fun st' k' c' b => (seg st' c c' ∧ c' ≤ c + 2 * (k' - k)) ∧ ∀ F R t, R.2.2.2.2 = Int64.ofNat t → t < 2 ^ bd → ∃ pr su le, rS st' F c c' R = (pr, su, le, R.2.2.2.1, Int64.ofNat (2 * t + b2n (b F)))
section Rd3
variable {G : Gam} {rp T : Nat} {kd pl vl : Nat → Int32} {K U P : Nat → Nat}
def CtC (G : Gam) (rp T : Nat) (kd pl vl : Nat → Int32) (K U P : Nat → Nat) (r : Nat) : Prop := ∀ (d n z k c : Nat) (f0 : Mf) (I st : Nat → Int32), 3 * r + 4 ≤ d → PSt T I k c → c + 2 ≤ 2 * k → Tr G d 71 [.ref rp, .int (nI (8 - r))] n z (rM f0 rp I kd pl vl st) (RdP (behB (2 * (8 - r) + 2) k c) K U P f0 rp I kd pl vl st k c (pC K U r k) n z)
def CtA (G : Gam) (rp T : Nat) (kd pl vl : Nat → Int32) (K U P : Nat → Nat) (r : Nat) : Prop := ∀ (d n z k c : Nat) (f0 : Mf) (I st : Nat → Int32), 3 * r + 5 ≤ d → PSt T I k c → c + 2 ≤ 2 * k → Tr G d 70 [.ref rp, .int (nI (8 - r))] n z (rM f0 rp I kd pl vl st) (RdP (behB (2 * (8 - r) + 1) k c) K U P f0 rp I kd pl vl st k c (pAn K (pC K U r) k) n z)
def CtB (G : Gam) (rp T : Nat) (kd pl vl : Nat → Int32) (K U P : Nat → Nat) (r : Nat) : Prop := ∀ (d n z k c : Nat) (f0 : Mf) (I st : Nat → Int32), 3 * r + 6 ≤ d → PSt T I k c → c + 2 ≤ 2 * k → Tr G d 69 [.ref rp, .int (nI (8 - r))] n z (rM f0 rp I kd pl vl st) (RdP (behB (2 * (8 - r)) k c) K U P f0 rp I kd pl vl st k c (pBo K (pC K U r) k) n z)
/-- the flag of the evening over two pieces -/
theorem ae_join {I I1 I2 : Nat → Int32} {a b c : Nat} (h1 : I1 10 = aeU (I 10) (evR K U a b)) (h2 : I2 10 = aeU (I1 10) (evR K U b c)) (hab : a ≤ b) (hbc : b ≤ c) : I2 10 = aeU (I 10) (evR K U a c) := by
  rw [h2, h1, aeU_or]; exact aeU_c (evR.join hab hbc).symm
theorem ae_step {I I1 I2 : Nat → Int32} {a b : Nat} (h1 : I1 10 = aeU (I 10) (evR K U a b)) (h2 : I2 10 = I1 10) (hab : a ≤ b) (hn : ¬ K b = 259) : I2 10 = aeU (I 10) (evR K U a (b + 1)) := by
  rw [h2, h1]
  refine aeU_c ?_
  rw [evR.join (b := b) (c := b + 1) hab (by omega)]
  exact ⟨fun q => Or.inl q, fun q => by rcases q with q | q; exact q; exact absurd q (evR.one hn)⟩
theorem t_readBoth (hG : Ok G) (hrp : rp + 5 ≤ 1000000) (hT : TkR K U P T kd pl vl) {r : Nat} (hr8 : r ≤ 8) (hsub : CtC G rp T kd pl vl K U P r) : CtA G rp T kd pl vl K U P r := by
  intro d n z k c f0 I st hd1 hP hck
  obtain ⟨⟨h5, h6, h8⟩, ⟨hk, hc⟩, h10⟩ := id hP
  obtain ⟨hS, hR, hB⟩ := id hT
  have hT4 := hS.1
  have okc := pC_ok hS r
  refine Tr.of2 (ls0 := [.ref rp, .int (nI (8 - r)), dead]) hG mo_X5_readBoth (Nat.le_of_ble_eq_true rfl) rfl ?_
  intro X hi hd hXn hXz hXf hQ
  have loop : ∀ m i k1 c1 n1 a I1 st1, i + m = 400 → (k < k1 ∧ k1 ≤ T ∧ i ≤ k1 - k) → T ≤ k1 + n1 → pAn K (pC K U r) k = pAl K (pC K U r) n1 k1 a → PSt T I1 k1 c1 → SmI I I1 → I1 10 = aeU (I 10) (evR K U k k1) → (∀ i, i < c → st1 i = st i) → behB (2 * (8 - r) + 1) k c st1 k1 c1 a → V G X 12 [.ref rp, .int (nI (8 - r)), .int (nI i)] [] n z (rM f0 rp I1 kd pl vl st1) := by
    intro m
    induction m with
    | zero => intro i k1 c1 n1 a I1 st1 hi0 hk1; omega
    | succ m ih =>
      intro i k1 c1 n1 a I1 st1 hi0 hk1 hfu hpe hP1 hI1 hae hst hbe
      obtain ⟨⟨g5, g6, g8⟩, ⟨gk, gc⟩, g10⟩ := id hP1
      obtain ⟨⟨hsg, hcb⟩, hrun⟩ := hbe
      have hlt := hsg.1
      have hkk : (nI k1).toNatClampNeg = k1 := nI_clamp (by omega)
      obtain ⟨ek, ep, ev⟩ := hR k1 gk
      have bk := (hB k1 gk).1
      by_cases q : K k1 = 263
      · have hkT := hS.lt gk (by omega)
        obtain ⟨m1, rfl⟩ : ∃ m1, n1 = m1 + 1 := ⟨n1 - 1, by omega⟩
        rw [ pAl, if_pos q] at hpe
        rw [q] at ek
        refine wp_sound (by rw [hi]; exact ok_X5_readBoth) (hd := [5, 12, 38, 43, 55]) 400 _ _ _ _ _ _ ?_
        simp (disch := omega) only [wp, stp, List.mem_cons, List.not_mem_nil, Nat.reduceEqDiff, or_false, or_self, false_or, or_true, true_or, Nat.reduceAdd, ↓reduceIte, List.getElem?_cons_zero, List.getElem?_cons_succ, nthV, List.set_cons_zero, List.set_cons_succ, noL, popA, catS, Value.category, List.length_cons, List.length_nil, Nat.reduceLT, Nat.reduceLeDiff, true_and, and_true, one0, zer1, imp_t, imp_f, ofN_nI, sdead, f20, f21, not_true_eq_false, upC_self, upC_ne, upC_upC, retC, fitC, isRefT, Option.toList_some, Option.toList_none, List.cons_append, List.nil_append, Nat.lt_add_one, Nat.zero_lt_succ, Nat.le_refl, Nat.add_zero, Nat.zero_add, Nat.one_ne_zero, Nat.zero_ne_one, Nat.lt_irrefl, List.length_set, fa_X5_readBoth, hi, hd, hQ, mr_X5_readBoth, g6, hkk, ek, rM_0, rM_1, rM_2, rM_3, rM_4, ru_0, ru_1, ru_2, ru_3, ru_4, rO_len, rg_0, rg_1, rg_2, rg_3, rg_4, rg_5, rg_6, rg_7, rg_8, rg_9, rg_10, rs_0, rs_1, rs_5, rs_6, rs_8, rs_9, rs_10]
        try simp only [m1f]
        try simp (disch := omega) only [nmod, nI_leI, nI_ltI, nI_eq, nI_clamp, vin_nI, nI_1, fa_lit, nI_add, nI_rm3, nI_rm2, pk_rem, pk_mul, pk_sub, pk_div, nI_eM, nI_Me, nI_pM, nI_pMz, nI_pM0, M1_lt, M1_le, nI_ltM, nI_leM, i8_nI, true_and, and_true, false_implies, true_implies, not_false_eq_true, not_true_eq_false, ne_eq, implies_true, Nat.not_lt_zero, Nat.zero_le, ite_min, max0, Nat.reduceLT, Nat.reduceLeDiff, Nat.reduceEqDiff, Nat.reduceAdd, Nat.reduceMul]
        try simp only [m1u]
        refine ⟨fun h => absurd h (by omega), fun _ => ⟨by omega, by omega, _, t_goOn hG hrp hP1 hT4 hkT, ?_⟩⟩
        rintro v n3 z3 f3 ⟨rfl, rfl, rfl, rfl⟩
        have hP2 : PSt T (upd I1 6 (nI (k1 + 1))) (k1 + 1) c1 := ⟨⟨g5, rfl, g8⟩, ⟨by omega, gc⟩, g10⟩
        have hI2 : SmI I (upd I1 6 (nI (k1 + 1))) := hI1.trans (fun j a1 a2 a3 => by rw [upd_ap, if_neg a1])
        refine wp_sound (by rw [hi]; exact ok_X5_readBoth) (hd := [5, 12, 38, 43, 55]) 400 _ _ _ _ _ _ ?_
        simp (disch := omega) only [wp, stp, List.mem_cons, List.not_mem_nil, Nat.reduceEqDiff, or_false, or_self, false_or, or_true, true_or, Nat.reduceAdd, ↓reduceIte, List.getElem?_cons_zero, List.getElem?_cons_succ, nthV, List.set_cons_zero, List.set_cons_succ, noL, popA, catS, Value.category, List.length_cons, List.length_nil, Nat.reduceLT, Nat.reduceLeDiff, true_and, and_true, one0, zer1, imp_t, imp_f, ofN_nI, sdead, f20, f21, not_true_eq_false, upC_self, upC_ne, upC_upC, retC, fitC, isRefT, Option.toList_some, Option.toList_none, List.cons_append, List.nil_append, Nat.lt_add_one, Nat.zero_lt_succ, Nat.le_refl, Nat.add_zero, Nat.zero_add, Nat.one_ne_zero, Nat.zero_ne_one, Nat.lt_irrefl, List.length_set, fa_X5_readBoth, hi, hd, hQ, mr_X5_readBoth, rM_0, rM_1, rM_2, rM_3, rM_4, ru_0, ru_1, ru_2, ru_3, ru_4, rO_len, rg_0, rg_1, rg_2, rg_3, rg_4, rg_5, rg_6, rg_7, rg_8, rg_9, rg_10, rs_0, rs_1, rs_5, rs_6, rs_8, rs_9, rs_10]
        try simp only [m1f]
        try simp (disch := omega) only [nmod, nI_leI, nI_ltI, nI_eq, nI_clamp, vin_nI, nI_1, fa_lit, nI_add, nI_rm3, nI_rm2, pk_rem, pk_mul, pk_sub, pk_div, nI_eM, nI_Me, nI_pM, nI_pMz, nI_pM0, M1_lt, M1_le, nI_ltM, nI_leM, i8_nI, true_and, and_true, false_implies, true_implies, not_false_eq_true, not_true_eq_false, ne_eq, implies_true, Nat.not_lt_zero, Nat.zero_le, ite_min, max0, Nat.reduceLT, Nat.reduceLeDiff, Nat.reduceEqDiff, Nat.reduceAdd, Nat.reduceMul]
        try simp only [m1u]
        refine ⟨by omega, _, hsub (d - 1) n3 z3 (k1 + 1) c1 f0 _ st1 (by omega) hP2 (by omega), ?_⟩
        intro v n4 z4 f4 hr
        have oks := okc (k1 + 1) (by omega)
        cases hu : pC K U r (k1 + 1) with
        | inl e =>
          rw [hu] at hr hpe
          obtain ⟨⟨rfl, rfl⟩, rfl, I', st', c', rfl, ⟨r0, r1⟩, r8, rc⟩ := hr
          rw [hpe] at hQ
          refine wp_sound (by rw [hi]; exact ok_X5_readBoth) (hd := [5, 12, 38, 43, 55]) 400 _ _ _ _ _ _ ?_
          simp (disch := omega) only [wp, stp, List.mem_cons, List.not_mem_nil, Nat.reduceEqDiff, or_false, or_self, false_or, or_true, true_or, Nat.reduceAdd, ↓reduceIte, List.getElem?_cons_zero, List.getElem?_cons_succ, nthV, List.set_cons_zero, List.set_cons_succ, noL, popA, catS, Value.category, List.length_cons, List.length_nil, Nat.reduceLT, Nat.reduceLeDiff, true_and, and_true, one0, zer1, imp_t, imp_f, ofN_nI, sdead, f20, f21, not_true_eq_false, upC_self, upC_ne, upC_upC, retC, fitC, isRefT, Option.toList_some, Option.toList_none, List.cons_append, List.nil_append, Nat.lt_add_one, Nat.zero_lt_succ, Nat.le_refl, Nat.add_zero, Nat.zero_add, Nat.one_ne_zero, Nat.zero_ne_one, Nat.lt_irrefl, List.length_set, fa_X5_readBoth, hi, hd, hQ, mr_X5_readBoth, rM_0, rM_1, rM_2, rM_3, rM_4, ru_0, ru_1, ru_2, ru_3, ru_4, rO_len, rg_0, rg_1, rg_2, rg_3, rg_4, rg_5, rg_6, rg_7, rg_8, rg_9, rg_10, rs_0, rs_1, rs_5, rs_6, rs_8, rs_9, rs_10]
          intro _
          obtain ⟨why, jj⟩ := e
          exact RdP.err r0 r1 r8 rc
        | inr qq =>
          obtain ⟨k3, b⟩ := qq
          obtain ⟨⟨e1, e2⟩, -⟩ := oks k3 b hu
          rw [hu] at hr hpe
          obtain ⟨⟨rfl, rfl⟩, rfl, I', st', c', rfl, rI, ⟨r6, r8, r10⟩, rst, ⟨rsg, rcb⟩, rrun⟩ := hr
          have rlt := rsg.1
          have hpe : pAn K (pC K U r) k = pAl K (pC K U r) m1 k3 (fun F => a F && b F) := hpe
          refine wp_sound (by rw [hi]; exact ok_X5_readBoth) (hd := [5, 12, 38, 43, 55]) 400 _ _ _ _ _ _ ?_
          simp (disch := omega) only [wp, stp, List.mem_cons, List.not_mem_nil, Nat.reduceEqDiff, or_false, or_self, false_or, or_true, true_or, Nat.reduceAdd, ↓reduceIte, List.getElem?_cons_zero, List.getElem?_cons_succ, nthV, List.set_cons_zero, List.set_cons_succ, noL, popA, catS, Value.category, List.length_cons, List.length_nil, Nat.reduceLT, Nat.reduceLeDiff, true_and, and_true, one0, zer1, imp_t, imp_f, ofN_nI, sdead, f20, f21, not_true_eq_false, upC_self, upC_ne, upC_upC, retC, fitC, isRefT, Option.toList_some, Option.toList_none, List.cons_append, List.nil_append, Nat.lt_add_one, Nat.zero_lt_succ, Nat.le_refl, Nat.add_zero, Nat.zero_add, Nat.one_ne_zero, Nat.zero_ne_one, Nat.lt_irrefl, List.length_set, fa_X5_readBoth, hi, hd, hQ, mr_X5_readBoth, rM_0, rM_1, rM_2, rM_3, rM_4, ru_0, ru_1, ru_2, ru_3, ru_4, rO_len, rg_0, rg_1, rg_2, rg_3, rg_4, rg_5, rg_6, rg_7, rg_8, rg_9, rg_10, rs_0, rs_1, rs_5, rs_6, rs_8, rs_9, rs_10]
          refine ⟨by omega, _, t_addStep hG hrp r8 (by omega) (a := 12) (b := 0) (by omega) (by omega), ?_⟩
          rintro v n5 z5 f5 ⟨rfl, ⟨rfl, rfl⟩, h⟩
          rcases h with ⟨-, rfl⟩ | ⟨qq, -⟩
          · refine wp_sound (by rw [hi]; exact ok_X5_readBoth) (hd := [5, 12, 38, 43, 55]) 400 _ _ _ _ _ _ ?_
            simp only [wp, stp, List.mem_cons, List.not_mem_nil, Nat.reduceEqDiff, or_false, or_self, false_or, or_true, true_or, Nat.reduceAdd, ↓reduceIte, List.getElem?_cons_zero, List.getElem?_cons_succ, nthV, List.set_cons_zero, List.set_cons_succ, noL, popA, catS, Value.category, List.length_cons, List.length_nil, Nat.reduceLT, Nat.reduceLeDiff, true_and, and_true, one0, zer1, imp_t, imp_f, ofN_nI, sdead, f20, f21, not_true_eq_false, upC_ap, upC_upC, retC, fitC, isRefT, Option.toList_some, Option.toList_none, List.cons_append, List.nil_append, Nat.lt_add_one, Nat.zero_lt_succ, Nat.le_refl, Nat.add_zero, Nat.zero_add, Nat.one_ne_zero, Nat.zero_ne_one, Nat.lt_irrefl, List.length_set, fa_X5_readBoth, hi, hd, hQ, mr_X5_readBoth, rM_0, rM_1, rM_2, rM_3, rM_4, ru_0, ru_1, ru_2, ru_3, ru_4, rO_len, rg_0, rg_1, rg_2, rg_3, rg_4, rg_5, rg_6, rg_7, rg_8, rg_9, rg_10, rs_0, rs_1, rs_5, rs_6, rs_8, rs_9, rs_10]
            try simp only [m1f]
            try simp (disch := omega) only [nmod, nI_leI, nI_ltI, nI_eq, nI_clamp, vin_nI, nI_1, fa_lit, nI_add, nI_rm3, nI_rm2, pk_rem, pk_mul, pk_sub, pk_div, nI_eM, nI_Me, nI_pM, nI_pMz, nI_pM0, M1_lt, M1_le, nI_ltM, nI_leM, i8_nI, true_and, and_true, false_implies, true_implies, not_false_eq_true, not_true_eq_false, ne_eq, implies_true, Nat.not_lt_zero, Nat.zero_le, ite_min, max0, Nat.reduceLT, Nat.reduceLeDiff, Nat.reduceEqDiff, Nat.reduceAdd, Nat.reduceMul]
            try simp only [m1u]
            have hae3 : upd I' 8 (nI (c' + 1)) 10 = aeU (I 10) (evR K U k k3) := ae_join (ae_step hae (I2 := upd I1 6 (nI (k1 + 1))) rfl (by omega) (by omega)) r10 (by omega) (by omega)
            refine ih (i + 1) k3 (c' + 1) m1 _ _ _ (by omega) (by omega) (by omega) hpe ⟨⟨?_, r6, rfl⟩, ⟨e2, by omega⟩, ?_⟩ ((hI2.trans rI).trans (fun j a1 a2 a3 => by rw [upd_ap, if_neg a2])) hae3 (fun i hi' => by rw [upd_lt (by omega), rst i (by omega)]; exact hst i hi') ?_
            · show I' 5 = _
              rw [rI 5 (by omega) (by omega) (by omega)]; exact g5
            · rw [hae3]; exact aeU_01 h10
            · obtain ⟨s1, s2⟩ := hsg.cong rst
              obtain ⟨j1, j2⟩ := s1.join rsg
              obtain ⟨t1, t2⟩ := j1.cong (st' := upd st' c' (nI (65536 * 12 + 0))) (fun i hi' => upd_lt hi')
              obtain ⟨o1, o2⟩ := seg.one (st := upd st' c' (nI (65536 * 12 + 0))) (c := c') upd_self (show 12 < 14 by omega) (show 0 < 65536 by omega)
              obtain ⟨y1, y2⟩ := t1.join o1
              refine ⟨⟨y1, by omega⟩, fun F R t ht htl => ?_⟩
              have hp : t < 2 ^ 17 := Nat.lt_of_lt_of_le htl (Nat.pow_le_pow_right (by omega) (by omega))
              obtain ⟨p1, p2, p3, p4⟩ := hrun F R t ht htl
              have hb2 := b2n_lt (a F)
              try simp only [Nat.add_zero] at htl
              have h2t : 2 * t + b2n (a F) < 2 ^ (2 * (8 - r) + 2) := by
                rw [show 2 * (8 - r) + 2 = (2 * (8 - r) + 1) + 1 by omega, Nat.pow_succ]; omega
              obtain ⟨q1, q2, q3, q4⟩ := rrun F (p1, p2, p3, R.2.2.2.1, Int64.ofNat (2 * t + b2n (a F))) _ rfl h2t
              refine ⟨q1, q2, q3, ?_⟩
              rw [y2, o2, t2, j2, s2, p4, q4]
              show (q1, q2, q3, R.2.2.2.1, judL _ 12 q3 q2) = _
              rw [ j_and (by omega)]
          · omega
      · have hpe : pAn K (pC K U r) k = .inr (k1, a) := by
          rw [hpe]
          cases n1 with
          | zero => rfl
          | succ n1 => rw [ pAl, if_neg q]
        rw [hpe] at hQ
        refine wp_sound (by rw [hi]; exact ok_X5_readBoth) (hd := [5, 12, 38, 43, 55]) 400 _ _ _ _ _ _ ?_
        simp (disch := omega) only [wp, stp, List.mem_cons, List.not_mem_nil, Nat.reduceEqDiff, or_false, or_self, false_or, or_true, true_or, Nat.reduceAdd, ↓reduceIte, List.getElem?_cons_zero, List.getElem?_cons_succ, nthV, List.set_cons_zero, List.set_cons_succ, noL, popA, catS, Value.category, List.length_cons, List.length_nil, Nat.reduceLT, Nat.reduceLeDiff, true_and, and_true, one0, zer1, imp_t, imp_f, ofN_nI, sdead, f20, f21, not_true_eq_false, upC_self, upC_ne, upC_upC, retC, fitC, isRefT, Option.toList_some, Option.toList_none, List.cons_append, List.nil_append, Nat.lt_add_one, Nat.zero_lt_succ, Nat.le_refl, Nat.add_zero, Nat.zero_add, Nat.one_ne_zero, Nat.zero_ne_one, Nat.lt_irrefl, List.length_set, fa_X5_readBoth, hi, hd, hQ, mr_X5_readBoth, g6, hkk, ek, rM_0, rM_1, rM_2, rM_3, rM_4, ru_0, ru_1, ru_2, ru_3, ru_4, rO_len, rg_0, rg_1, rg_2, rg_3, rg_4, rg_5, rg_6, rg_7, rg_8, rg_9, rg_10, rs_0, rs_1, rs_5, rs_6, rs_8, rs_9, rs_10]
        try simp only [m1f]
        try simp (disch := omega) only [nmod, nI_leI, nI_ltI, nI_eq, nI_clamp, vin_nI, nI_1, fa_lit, nI_add, nI_rm3, nI_rm2, pk_rem, pk_mul, pk_sub, pk_div, nI_eM, nI_Me, nI_pM, nI_pMz, nI_pM0, M1_lt, M1_le, nI_ltM, nI_leM, i8_nI, true_and, and_true, false_implies, true_implies, not_false_eq_true, not_true_eq_false, ne_eq, implies_true, Nat.not_lt_zero, Nat.zero_le, ite_min, max0, Nat.reduceLT, Nat.reduceLeDiff, Nat.reduceEqDiff, Nat.reduceAdd, Nat.reduceMul]
        try simp only [m1u]
        have nq : ¬ nI (K k1) = nI 263 := fun z => q ((nI_eq (by omega) (by omega)).mp z)
        refine ⟨fun h => absurd h (by omega), fun _ => ⟨by omega, fun _ => ?_, fun h => absurd h (by first | exact q | exact nq)⟩⟩
        exact ⟨⟨rfl, rfl⟩, rfl, I1, st1, c1, rfl, hI1, ⟨g6, g8, hae⟩, hst, ⟨hsg, hcb⟩, hrun⟩
  refine wp_sound (by rw [hi]; exact ok_X5_readBoth) (hd := [5, 12, 38, 43, 55]) 400 _ _ _ _ _ _ ?_
  simp (disch := omega) only [wp, stp, List.mem_cons, List.not_mem_nil, Nat.reduceEqDiff, or_false, or_self, false_or, or_true, true_or, Nat.reduceAdd, ↓reduceIte, List.getElem?_cons_zero, List.getElem?_cons_succ, nthV, List.set_cons_zero, List.set_cons_succ, noL, popA, catS, Value.category, List.length_cons, List.length_nil, Nat.reduceLT, Nat.reduceLeDiff, true_and, and_true, one0, zer1, imp_t, imp_f, ofN_nI, sdead, f20, f21, not_true_eq_false, upC_self, upC_ne, upC_upC, retC, fitC, isRefT, Option.toList_some, Option.toList_none, List.cons_append, List.nil_append, Nat.lt_add_one, Nat.zero_lt_succ, Nat.le_refl, Nat.add_zero, Nat.zero_add, Nat.one_ne_zero, Nat.zero_ne_one, Nat.lt_irrefl, List.length_set, fa_X5_readBoth, hi, hd, hQ, mr_X5_readBoth, rM_0, rM_1, rM_2, rM_3, rM_4, ru_0, ru_1, ru_2, ru_3, ru_4, rO_len, rg_0, rg_1, rg_2, rg_3, rg_4, rg_5, rg_6, rg_7, rg_8, rg_9, rg_10, rs_0, rs_1, rs_5, rs_6, rs_8, rs_9, rs_10]
  refine ⟨by omega, _, hsub (d - 1) n z k c f0 I st (by omega) hP hck, ?_⟩
  intro v n4 z4 f4 hr
  have oks := okc k hk
  have hdef : pAn K (pC K U r) k = (match pC K U r k with | .inl e => .inl e | .inr (k', b) => pAl K (pC K U r) 400 k' b) := rfl
  rw [hdef] at hQ loop
  cases hu : pC K U r k with
  | inl e =>
    rw [hu] at hr hQ
    obtain ⟨⟨rfl, rfl⟩, rfl, I', st', c', rfl, ⟨r0, r1⟩, r8, rc⟩ := hr
    refine wp_sound (by rw [hi]; exact ok_X5_readBoth) (hd := [5, 12, 38, 43, 55]) 400 _ _ _ _ _ _ ?_
    simp (disch := omega) only [wp, stp, List.mem_cons, List.not_mem_nil, Nat.reduceEqDiff, or_false, or_self, false_or, or_true, true_or, Nat.reduceAdd, ↓reduceIte, List.getElem?_cons_zero, List.getElem?_cons_succ, nthV, List.set_cons_zero, List.set_cons_succ, noL, popA, catS, Value.category, List.length_cons, List.length_nil, Nat.reduceLT, Nat.reduceLeDiff, true_and, and_true, one0, zer1, imp_t, imp_f, ofN_nI, sdead, f20, f21, not_true_eq_false, upC_self, upC_ne, upC_upC, retC, fitC, isRefT, Option.toList_some, Option.toList_none, List.cons_append, List.nil_append, Nat.lt_add_one, Nat.zero_lt_succ, Nat.le_refl, Nat.add_zero, Nat.zero_add, Nat.one_ne_zero, Nat.zero_ne_one, Nat.lt_irrefl, List.length_set, fa_X5_readBoth, hi, hd, hQ, mr_X5_readBoth, rM_0, rM_1, rM_2, rM_3, rM_4, ru_0, ru_1, ru_2, ru_3, ru_4, rO_len, rg_0, rg_1, rg_2, rg_3, rg_4, rg_5, rg_6, rg_7, rg_8, rg_9, rg_10, rs_0, rs_1, rs_5, rs_6, rs_8, rs_9, rs_10]
    intro _
    obtain ⟨why, jj⟩ := e
    exact RdP.err r0 r1 r8 rc
  | inr qq =>
    obtain ⟨k3, b⟩ := qq
    obtain ⟨⟨e1, e2⟩, -⟩ := oks k3 b hu
    rw [hu] at hr hQ loop
    obtain ⟨⟨rfl, rfl⟩, rfl, I', st', c', rfl, rI, ⟨r6, r8, r10⟩, rst, ⟨rsg, rcb⟩, rrun⟩ := hr
    have L := loop 400 0 k3 c' 400 b I' st' rfl (by omega) (by omega) rfl ⟨⟨?_, r6, r8⟩, ⟨e2, by omega⟩, ?_⟩ rI r10 rst ⟨⟨rsg, rcb⟩, fun F R t h1 h2 => rrun F R t h1 (Nat.lt_of_lt_of_le h2 (Nat.pow_le_pow_right (by omega) (by omega)))⟩
    · refine wp_sound (by rw [hi]; exact ok_X5_readBoth) (hd := [5, 12, 38, 43, 55]) 400 _ _ _ _ _ _ ?_
      simp (disch := omega) only [wp, stp, List.mem_cons, List.not_mem_nil, Nat.reduceEqDiff, or_false, or_self, false_or, or_true, true_or, Nat.reduceAdd, ↓reduceIte, List.getElem?_cons_zero, List.getElem?_cons_succ, nthV, List.set_cons_zero, List.set_cons_succ, noL, popA, catS, Value.category, List.length_cons, List.length_nil, Nat.reduceLT, Nat.reduceLeDiff, true_and, and_true, one0, zer1, imp_t, imp_f, ofN_nI, sdead, f20, f21, not_true_eq_false, upC_self, upC_ne, upC_upC, retC, fitC, isRefT, Option.toList_some, Option.toList_none, List.cons_append, List.nil_append, Nat.lt_add_one, Nat.zero_lt_succ, Nat.le_refl, Nat.add_zero, Nat.zero_add, Nat.one_ne_zero, Nat.zero_ne_one, Nat.lt_irrefl, List.length_set, fa_X5_readBoth, hi, hd, hQ, mr_X5_readBoth, rM_0, rM_1, rM_2, rM_3, rM_4, ru_0, ru_1, ru_2, ru_3, ru_4, rO_len, rg_0, rg_1, rg_2, rg_3, rg_4, rg_5, rg_6, rg_7, rg_8, rg_9, rg_10, rs_0, rs_1, rs_5, rs_6, rs_8, rs_9, rs_10]
      try simp only [m1f]
      try simp (disch := omega) only [nmod, nI_leI, nI_ltI, nI_eq, nI_clamp, vin_nI, nI_1, fa_lit, nI_add, nI_rm3, nI_rm2, pk_rem, pk_mul, pk_sub, pk_div, nI_eM, nI_Me, nI_pM, nI_pMz, nI_pM0, M1_lt, M1_le, nI_ltM, nI_leM, i8_nI, true_and, and_true, false_implies, true_implies, not_false_eq_true, not_true_eq_false, ne_eq, implies_true, Nat.not_lt_zero, Nat.zero_le, ite_min, max0, Nat.reduceLT, Nat.reduceLeDiff, Nat.reduceEqDiff, Nat.reduceAdd, Nat.reduceMul]
      try simp only [m1u]
      exact L
    · rw [rI 5 (by omega) (by omega) (by omega)]; exact h5
    · rw [r10]; exact aeU_01 h10
theorem t_readEither (hG : Ok G) (hrp : rp + 5 ≤ 1000000) (hT : TkR K U P T kd pl vl) {r : Nat} (hr8 : r ≤ 8) (hsub : CtA G rp T kd pl vl K U P r) : CtB G rp T kd pl vl K U P r := by
  intro d n z k c f0 I st hd1 hP hck
  obtain ⟨⟨h5, h6, h8⟩, ⟨hk, hc⟩, h10⟩ := id hP
  obtain ⟨hS, hR, hB⟩ := id hT
  have hT4 := hS.1
  have okc := pC_ok hS r
  refine Tr.of2 (ls0 := [.ref rp, .int (nI (8 - r)), dead]) hG mo_X5_readEither (Nat.le_of_ble_eq_true rfl) rfl ?_
  intro X hi hd hXn hXz hXf hQ
  have loop : ∀ m i k1 c1 n1 a I1 st1, i + m = 400 → (k < k1 ∧ k1 ≤ T ∧ i ≤ k1 - k) → T ≤ k1 + n1 → pBo K (pC K U r) k = pBl K (pC K U r) n1 k1 a → PSt T I1 k1 c1 → SmI I I1 → I1 10 = aeU (I 10) (evR K U k k1) → (∀ i, i < c → st1 i = st i) → behB (2 * (8 - r) + 0) k c st1 k1 c1 a → V G X 12 [.ref rp, .int (nI (8 - r)), .int (nI i)] [] n z (rM f0 rp I1 kd pl vl st1) := by
    intro m
    induction m with
    | zero => intro i k1 c1 n1 a I1 st1 hi0 hk1; omega
    | succ m ih =>
      intro i k1 c1 n1 a I1 st1 hi0 hk1 hfu hpe hP1 hI1 hae hst hbe
      obtain ⟨⟨g5, g6, g8⟩, ⟨gk, gc⟩, g10⟩ := id hP1
      obtain ⟨⟨hsg, hcb⟩, hrun⟩ := hbe
      have hlt := hsg.1
      have hkk : (nI k1).toNatClampNeg = k1 := nI_clamp (by omega)
      obtain ⟨ek, ep, ev⟩ := hR k1 gk
      have bk := (hB k1 gk).1
      by_cases q : K k1 = 262
      · have hkT := hS.lt gk (by omega)
        obtain ⟨m1, rfl⟩ : ∃ m1, n1 = m1 + 1 := ⟨n1 - 1, by omega⟩
        rw [ pBl, if_pos q] at hpe
        rw [q] at ek
        refine wp_sound (by rw [hi]; exact ok_X5_readEither) (hd := [5, 12, 38, 43, 55]) 400 _ _ _ _ _ _ ?_
        simp (disch := omega) only [wp, stp, List.mem_cons, List.not_mem_nil, Nat.reduceEqDiff, or_false, or_self, false_or, or_true, true_or, Nat.reduceAdd, ↓reduceIte, List.getElem?_cons_zero, List.getElem?_cons_succ, nthV, List.set_cons_zero, List.set_cons_succ, noL, popA, catS, Value.category, List.length_cons, List.length_nil, Nat.reduceLT, Nat.reduceLeDiff, true_and, and_true, one0, zer1, imp_t, imp_f, ofN_nI, sdead, f20, f21, not_true_eq_false, upC_self, upC_ne, upC_upC, retC, fitC, isRefT, Option.toList_some, Option.toList_none, List.cons_append, List.nil_append, Nat.lt_add_one, Nat.zero_lt_succ, Nat.le_refl, Nat.add_zero, Nat.zero_add, Nat.one_ne_zero, Nat.zero_ne_one, Nat.lt_irrefl, List.length_set, fa_X5_readEither, hi, hd, hQ, mr_X5_readEither, g6, hkk, ek, rM_0, rM_1, rM_2, rM_3, rM_4, ru_0, ru_1, ru_2, ru_3, ru_4, rO_len, rg_0, rg_1, rg_2, rg_3, rg_4, rg_5, rg_6, rg_7, rg_8, rg_9, rg_10, rs_0, rs_1, rs_5, rs_6, rs_8, rs_9, rs_10]
        try simp only [m1f]
        try simp (disch := omega) only [nmod, nI_leI, nI_ltI, nI_eq, nI_clamp, vin_nI, nI_1, fa_lit, nI_add, nI_rm3, nI_rm2, pk_rem, pk_mul, pk_sub, pk_div, nI_eM, nI_Me, nI_pM, nI_pMz, nI_pM0, M1_lt, M1_le, nI_ltM, nI_leM, i8_nI, true_and, and_true, false_implies, true_implies, not_false_eq_true, not_true_eq_false, ne_eq, implies_true, Nat.not_lt_zero, Nat.zero_le, ite_min, max0, Nat.reduceLT, Nat.reduceLeDiff, Nat.reduceEqDiff, Nat.reduceAdd, Nat.reduceMul]
        try simp only [m1u]
        refine ⟨fun h => absurd h (by omega), fun _ => ⟨by omega, by omega, _, t_goOn hG hrp hP1 hT4 hkT, ?_⟩⟩
        rintro v n3 z3 f3 ⟨rfl, rfl, rfl, rfl⟩
        have hP2 : PSt T (upd I1 6 (nI (k1 + 1))) (k1 + 1) c1 := ⟨⟨g5, rfl, g8⟩, ⟨by omega, gc⟩, g10⟩
        have hI2 : SmI I (upd I1 6 (nI (k1 + 1))) := hI1.trans (fun j a1 a2 a3 => by rw [upd_ap, if_neg a1])
        refine wp_sound (by rw [hi]; exact ok_X5_readEither) (hd := [5, 12, 38, 43, 55]) 400 _ _ _ _ _ _ ?_
        simp (disch := omega) only [wp, stp, List.mem_cons, List.not_mem_nil, Nat.reduceEqDiff, or_false, or_self, false_or, or_true, true_or, Nat.reduceAdd, ↓reduceIte, List.getElem?_cons_zero, List.getElem?_cons_succ, nthV, List.set_cons_zero, List.set_cons_succ, noL, popA, catS, Value.category, List.length_cons, List.length_nil, Nat.reduceLT, Nat.reduceLeDiff, true_and, and_true, one0, zer1, imp_t, imp_f, ofN_nI, sdead, f20, f21, not_true_eq_false, upC_self, upC_ne, upC_upC, retC, fitC, isRefT, Option.toList_some, Option.toList_none, List.cons_append, List.nil_append, Nat.lt_add_one, Nat.zero_lt_succ, Nat.le_refl, Nat.add_zero, Nat.zero_add, Nat.one_ne_zero, Nat.zero_ne_one, Nat.lt_irrefl, List.length_set, fa_X5_readEither, hi, hd, hQ, mr_X5_readEither, rM_0, rM_1, rM_2, rM_3, rM_4, ru_0, ru_1, ru_2, ru_3, ru_4, rO_len, rg_0, rg_1, rg_2, rg_3, rg_4, rg_5, rg_6, rg_7, rg_8, rg_9, rg_10, rs_0, rs_1, rs_5, rs_6, rs_8, rs_9, rs_10]
        try simp only [m1f]
        try simp (disch := omega) only [nmod, nI_leI, nI_ltI, nI_eq, nI_clamp, vin_nI, nI_1, fa_lit, nI_add, nI_rm3, nI_rm2, pk_rem, pk_mul, pk_sub, pk_div, nI_eM, nI_Me, nI_pM, nI_pMz, nI_pM0, M1_lt, M1_le, nI_ltM, nI_leM, i8_nI, true_and, and_true, false_implies, true_implies, not_false_eq_true, not_true_eq_false, ne_eq, implies_true, Nat.not_lt_zero, Nat.zero_le, ite_min, max0, Nat.reduceLT, Nat.reduceLeDiff, Nat.reduceEqDiff, Nat.reduceAdd, Nat.reduceMul]
        try simp only [m1u]
        refine ⟨by omega, _, hsub (d - 1) n3 z3 (k1 + 1) c1 f0 _ st1 (by omega) hP2 (by omega), ?_⟩
        intro v n4 z4 f4 hr
        have oks := pAn_ok hS okc (k := k1 + 1) (by omega)
        cases hu : pAn K (pC K U r) (k1 + 1) with
        | inl e =>
          rw [hu] at hr hpe
          obtain ⟨⟨rfl, rfl⟩, rfl, I', st', c', rfl, ⟨r0, r1⟩, r8, rc⟩ := hr
          rw [hpe] at hQ
          refine wp_sound (by rw [hi]; exact ok_X5_readEither) (hd := [5, 12, 38, 43, 55]) 400 _ _ _ _ _ _ ?_
          simp (disch := omega) only [wp, stp, List.mem_cons, List.not_mem_nil, Nat.reduceEqDiff, or_false, or_self, false_or, or_true, true_or, Nat.reduceAdd, ↓reduceIte, List.getElem?_cons_zero, List.getElem?_cons_succ, nthV, List.set_cons_zero, List.set_cons_succ, noL, popA, catS, Value.category, List.length_cons, List.length_nil, Nat.reduceLT, Nat.reduceLeDiff, true_and, and_true, one0, zer1, imp_t, imp_f, ofN_nI, sdead, f20, f21, not_true_eq_false, upC_self, upC_ne, upC_upC, retC, fitC, isRefT, Option.toList_some, Option.toList_none, List.cons_append, List.nil_append, Nat.lt_add_one, Nat.zero_lt_succ, Nat.le_refl, Nat.add_zero, Nat.zero_add, Nat.one_ne_zero, Nat.zero_ne_one, Nat.lt_irrefl, List.length_set, fa_X5_readEither, hi, hd, hQ, mr_X5_readEither, rM_0, rM_1, rM_2, rM_3, rM_4, ru_0, ru_1, ru_2, ru_3, ru_4, rO_len, rg_0, rg_1, rg_2, rg_3, rg_4, rg_5, rg_6, rg_7, rg_8, rg_9, rg_10, rs_0, rs_1, rs_5, rs_6, rs_8, rs_9, rs_10]
          intro _
          obtain ⟨why, jj⟩ := e
          exact RdP.err r0 r1 r8 rc
        | inr qq =>
          obtain ⟨k3, b⟩ := qq
          obtain ⟨⟨e1, e2⟩, -⟩ := oks k3 b hu
          rw [hu] at hr hpe
          obtain ⟨⟨rfl, rfl⟩, rfl, I', st', c', rfl, rI, ⟨r6, r8, r10⟩, rst, ⟨rsg, rcb⟩, rrun⟩ := hr
          have rlt := rsg.1
          have hpe : pBo K (pC K U r) k = pBl K (pC K U r) m1 k3 (fun F => a F || b F) := hpe
          refine wp_sound (by rw [hi]; exact ok_X5_readEither) (hd := [5, 12, 38, 43, 55]) 400 _ _ _ _ _ _ ?_
          simp (disch := omega) only [wp, stp, List.mem_cons, List.not_mem_nil, Nat.reduceEqDiff, or_false, or_self, false_or, or_true, true_or, Nat.reduceAdd, ↓reduceIte, List.getElem?_cons_zero, List.getElem?_cons_succ, nthV, List.set_cons_zero, List.set_cons_succ, noL, popA, catS, Value.category, List.length_cons, List.length_nil, Nat.reduceLT, Nat.reduceLeDiff, true_and, and_true, one0, zer1, imp_t, imp_f, ofN_nI, sdead, f20, f21, not_true_eq_false, upC_self, upC_ne, upC_upC, retC, fitC, isRefT, Option.toList_some, Option.toList_none, List.cons_append, List.nil_append, Nat.lt_add_one, Nat.zero_lt_succ, Nat.le_refl, Nat.add_zero, Nat.zero_add, Nat.one_ne_zero, Nat.zero_ne_one, Nat.lt_irrefl, List.length_set, fa_X5_readEither, hi, hd, hQ, mr_X5_readEither, rM_0, rM_1, rM_2, rM_3, rM_4, ru_0, ru_1, ru_2, ru_3, ru_4, rO_len, rg_0, rg_1, rg_2, rg_3, rg_4, rg_5, rg_6, rg_7, rg_8, rg_9, rg_10, rs_0, rs_1, rs_5, rs_6, rs_8, rs_9, rs_10]
          refine ⟨by omega, _, t_addStep hG hrp r8 (by omega) (a := 13) (b := 0) (by omega) (by omega), ?_⟩
          rintro v n5 z5 f5 ⟨rfl, ⟨rfl, rfl⟩, h⟩
          rcases h with ⟨-, rfl⟩ | ⟨qq, -⟩
          · refine wp_sound (by rw [hi]; exact ok_X5_readEither) (hd := [5, 12, 38, 43, 55]) 400 _ _ _ _ _ _ ?_
            simp only [wp, stp, List.mem_cons, List.not_mem_nil, Nat.reduceEqDiff, or_false, or_self, false_or, or_true, true_or, Nat.reduceAdd, ↓reduceIte, List.getElem?_cons_zero, List.getElem?_cons_succ, nthV, List.set_cons_zero, List.set_cons_succ, noL, popA, catS, Value.category, List.length_cons, List.length_nil, Nat.reduceLT, Nat.reduceLeDiff, true_and, and_true, one0, zer1, imp_t, imp_f, ofN_nI, sdead, f20, f21, not_true_eq_false, upC_ap, upC_upC, retC, fitC, isRefT, Option.toList_some, Option.toList_none, List.cons_append, List.nil_append, Nat.lt_add_one, Nat.zero_lt_succ, Nat.le_refl, Nat.add_zero, Nat.zero_add, Nat.one_ne_zero, Nat.zero_ne_one, Nat.lt_irrefl, List.length_set, fa_X5_readEither, hi, hd, hQ, mr_X5_readEither, rM_0, rM_1, rM_2, rM_3, rM_4, ru_0, ru_1, ru_2, ru_3, ru_4, rO_len, rg_0, rg_1, rg_2, rg_3, rg_4, rg_5, rg_6, rg_7, rg_8, rg_9, rg_10, rs_0, rs_1, rs_5, rs_6, rs_8, rs_9, rs_10]
            try simp only [m1f]
            try simp (disch := omega) only [nmod, nI_leI, nI_ltI, nI_eq, nI_clamp, vin_nI, nI_1, fa_lit, nI_add, nI_rm3, nI_rm2, pk_rem, pk_mul, pk_sub, pk_div, nI_eM, nI_Me, nI_pM, nI_pMz, nI_pM0, M1_lt, M1_le, nI_ltM, nI_leM, i8_nI, true_and, and_true, false_implies, true_implies, not_false_eq_true, not_true_eq_false, ne_eq, implies_true, Nat.not_lt_zero, Nat.zero_le, ite_min, max0, Nat.reduceLT, Nat.reduceLeDiff, Nat.reduceEqDiff, Nat.reduceAdd, Nat.reduceMul]
            try simp only [m1u]
            have hae3 : upd I' 8 (nI (c' + 1)) 10 = aeU (I 10) (evR K U k k3) := ae_join (ae_step hae (I2 := upd I1 6 (nI (k1 + 1))) rfl (by omega) (by omega)) r10 (by omega) (by omega)
            refine ih (i + 1) k3 (c' + 1) m1 _ _ _ (by omega) (by omega) (by omega) hpe ⟨⟨?_, r6, rfl⟩, ⟨e2, by omega⟩, ?_⟩ ((hI2.trans rI).trans (fun j a1 a2 a3 => by rw [upd_ap, if_neg a2])) hae3 (fun i hi' => by rw [upd_lt (by omega), rst i (by omega)]; exact hst i hi') ?_
            · show I' 5 = _
              rw [rI 5 (by omega) (by omega) (by omega)]; exact g5
            · rw [hae3]; exact aeU_01 h10
            · obtain ⟨s1, s2⟩ := hsg.cong rst
              obtain ⟨j1, j2⟩ := s1.join rsg
              obtain ⟨t1, t2⟩ := j1.cong (st' := upd st' c' (nI (65536 * 13 + 0))) (fun i hi' => upd_lt hi')
              obtain ⟨o1, o2⟩ := seg.one (st := upd st' c' (nI (65536 * 13 + 0))) (c := c') upd_self (show 13 < 14 by omega) (show 0 < 65536 by omega)
              obtain ⟨y1, y2⟩ := t1.join o1
              refine ⟨⟨y1, by omega⟩, fun F R t ht htl => ?_⟩
              have hp : t < 2 ^ 17 := Nat.lt_of_lt_of_le htl (Nat.pow_le_pow_right (by omega) (by omega))
              obtain ⟨p1, p2, p3, p4⟩ := hrun F R t ht htl
              have hb2 := b2n_lt (a F)
              try simp only [Nat.add_zero] at htl
              have h2t : 2 * t + b2n (a F) < 2 ^ (2 * (8 - r) + 1) := by
                rw [show 2 * (8 - r) + 1 = (2 * (8 - r) + 0) + 1 by omega, Nat.pow_succ]; omega
              obtain ⟨q1, q2, q3, q4⟩ := rrun F (p1, p2, p3, R.2.2.2.1, Int64.ofNat (2 * t + b2n (a F))) _ rfl h2t
              refine ⟨q1, q2, q3, ?_⟩
              rw [y2, o2, t2, j2, s2, p4, q4]
              show (q1, q2, q3, R.2.2.2.1, judL _ 13 q3 q2) = _
              rw [ j_or (by omega)]
          · omega
      · have hpe : pBo K (pC K U r) k = .inr (k1, a) := by
          rw [hpe]
          cases n1 with
          | zero => rfl
          | succ n1 => rw [ pBl, if_neg q]
        rw [hpe] at hQ
        refine wp_sound (by rw [hi]; exact ok_X5_readEither) (hd := [5, 12, 38, 43, 55]) 400 _ _ _ _ _ _ ?_
        simp (disch := omega) only [wp, stp, List.mem_cons, List.not_mem_nil, Nat.reduceEqDiff, or_false, or_self, false_or, or_true, true_or, Nat.reduceAdd, ↓reduceIte, List.getElem?_cons_zero, List.getElem?_cons_succ, nthV, List.set_cons_zero, List.set_cons_succ, noL, popA, catS, Value.category, List.length_cons, List.length_nil, Nat.reduceLT, Nat.reduceLeDiff, true_and, and_true, one0, zer1, imp_t, imp_f, ofN_nI, sdead, f20, f21, not_true_eq_false, upC_self, upC_ne, upC_upC, retC, fitC, isRefT, Option.toList_some, Option.toList_none, List.cons_append, List.nil_append, Nat.lt_add_one, Nat.zero_lt_succ, Nat.le_refl, Nat.add_zero, Nat.zero_add, Nat.one_ne_zero, Nat.zero_ne_one, Nat.lt_irrefl, List.length_set, fa_X5_readEither, hi, hd, hQ, mr_X5_readEither, g6, hkk, ek, rM_0, rM_1, rM_2, rM_3, rM_4, ru_0, ru_1, ru_2, ru_3, ru_4, rO_len, rg_0, rg_1, rg_2, rg_3, rg_4, rg_5, rg_6, rg_7, rg_8, rg_9, rg_10, rs_0, rs_1, rs_5, rs_6, rs_8, rs_9, rs_10]
        try simp only [m1f]
        try simp (disch := omega) only [nmod, nI_leI, nI_ltI, nI_eq, nI_clamp, vin_nI, nI_1, fa_lit, nI_add, nI_rm3, nI_rm2, pk_rem, pk_mul, pk_sub, pk_div, nI_eM, nI_Me, nI_pM, nI_pMz, nI_pM0, M1_lt, M1_le, nI_ltM, nI_leM, i8_nI, true_and, and_true, false_implies, true_implies, not_false_eq_true, not_true_eq_false, ne_eq, implies_true, Nat.not_lt_zero, Nat.zero_le, ite_min, max0, Nat.reduceLT, Nat.reduceLeDiff, Nat.reduceEqDiff, Nat.reduceAdd, Nat.reduceMul]
        try simp only [m1u]
        have nq : ¬ nI (K k1) = nI 262 := fun z => q ((nI_eq (by omega) (by omega)).mp z)
        refine ⟨fun h => absurd h (by omega), fun _ => ⟨by omega, fun _ => ?_, fun h => absurd h (by first | exact q | exact nq)⟩⟩
        exact ⟨⟨rfl, rfl⟩, rfl, I1, st1, c1, rfl, hI1, ⟨g6, g8, hae⟩, hst, ⟨hsg, hcb⟩, hrun⟩
  refine wp_sound (by rw [hi]; exact ok_X5_readEither) (hd := [5, 12, 38, 43, 55]) 400 _ _ _ _ _ _ ?_
  simp (disch := omega) only [wp, stp, List.mem_cons, List.not_mem_nil, Nat.reduceEqDiff, or_false, or_self, false_or, or_true, true_or, Nat.reduceAdd, ↓reduceIte, List.getElem?_cons_zero, List.getElem?_cons_succ, nthV, List.set_cons_zero, List.set_cons_succ, noL, popA, catS, Value.category, List.length_cons, List.length_nil, Nat.reduceLT, Nat.reduceLeDiff, true_and, and_true, one0, zer1, imp_t, imp_f, ofN_nI, sdead, f20, f21, not_true_eq_false, upC_self, upC_ne, upC_upC, retC, fitC, isRefT, Option.toList_some, Option.toList_none, List.cons_append, List.nil_append, Nat.lt_add_one, Nat.zero_lt_succ, Nat.le_refl, Nat.add_zero, Nat.zero_add, Nat.one_ne_zero, Nat.zero_ne_one, Nat.lt_irrefl, List.length_set, fa_X5_readEither, hi, hd, hQ, mr_X5_readEither, rM_0, rM_1, rM_2, rM_3, rM_4, ru_0, ru_1, ru_2, ru_3, ru_4, rO_len, rg_0, rg_1, rg_2, rg_3, rg_4, rg_5, rg_6, rg_7, rg_8, rg_9, rg_10, rs_0, rs_1, rs_5, rs_6, rs_8, rs_9, rs_10]
  refine ⟨by omega, _, hsub (d - 1) n z k c f0 I st (by omega) hP hck, ?_⟩
  intro v n4 z4 f4 hr
  have oks := pAn_ok hS okc hk
  have hdef : pBo K (pC K U r) k = (match pAn K (pC K U r) k with | .inl e => .inl e | .inr (k', b) => pBl K (pC K U r) 400 k' b) := rfl
  rw [hdef] at hQ loop
  cases hu : pAn K (pC K U r) k with
  | inl e =>
    rw [hu] at hr hQ
    obtain ⟨⟨rfl, rfl⟩, rfl, I', st', c', rfl, ⟨r0, r1⟩, r8, rc⟩ := hr
    refine wp_sound (by rw [hi]; exact ok_X5_readEither) (hd := [5, 12, 38, 43, 55]) 400 _ _ _ _ _ _ ?_
    simp (disch := omega) only [wp, stp, List.mem_cons, List.not_mem_nil, Nat.reduceEqDiff, or_false, or_self, false_or, or_true, true_or, Nat.reduceAdd, ↓reduceIte, List.getElem?_cons_zero, List.getElem?_cons_succ, nthV, List.set_cons_zero, List.set_cons_succ, noL, popA, catS, Value.category, List.length_cons, List.length_nil, Nat.reduceLT, Nat.reduceLeDiff, true_and, and_true, one0, zer1, imp_t, imp_f, ofN_nI, sdead, f20, f21, not_true_eq_false, upC_self, upC_ne, upC_upC, retC, fitC, isRefT, Option.toList_some, Option.toList_none, List.cons_append, List.nil_append, Nat.lt_add_one, Nat.zero_lt_succ, Nat.le_refl, Nat.add_zero, Nat.zero_add, Nat.one_ne_zero, Nat.zero_ne_one, Nat.lt_irrefl, List.length_set, fa_X5_readEither, hi, hd, hQ, mr_X5_readEither, rM_0, rM_1, rM_2, rM_3, rM_4, ru_0, ru_1, ru_2, ru_3, ru_4, rO_len, rg_0, rg_1, rg_2, rg_3, rg_4, rg_5, rg_6, rg_7, rg_8, rg_9, rg_10, rs_0, rs_1, rs_5, rs_6, rs_8, rs_9, rs_10]
    intro _
    obtain ⟨why, jj⟩ := e
    exact RdP.err r0 r1 r8 rc
  | inr qq =>
    obtain ⟨k3, b⟩ := qq
    obtain ⟨⟨e1, e2⟩, -⟩ := oks k3 b hu
    rw [hu] at hr hQ loop
    obtain ⟨⟨rfl, rfl⟩, rfl, I', st', c', rfl, rI, ⟨r6, r8, r10⟩, rst, ⟨rsg, rcb⟩, rrun⟩ := hr
    have L := loop 400 0 k3 c' 400 b I' st' rfl (by omega) (by omega) rfl ⟨⟨?_, r6, r8⟩, ⟨e2, by omega⟩, ?_⟩ rI r10 rst ⟨⟨rsg, rcb⟩, fun F R t h1 h2 => rrun F R t h1 (Nat.lt_of_lt_of_le h2 (Nat.pow_le_pow_right (by omega) (by omega)))⟩
    · refine wp_sound (by rw [hi]; exact ok_X5_readEither) (hd := [5, 12, 38, 43, 55]) 400 _ _ _ _ _ _ ?_
      simp (disch := omega) only [wp, stp, List.mem_cons, List.not_mem_nil, Nat.reduceEqDiff, or_false, or_self, false_or, or_true, true_or, Nat.reduceAdd, ↓reduceIte, List.getElem?_cons_zero, List.getElem?_cons_succ, nthV, List.set_cons_zero, List.set_cons_succ, noL, popA, catS, Value.category, List.length_cons, List.length_nil, Nat.reduceLT, Nat.reduceLeDiff, true_and, and_true, one0, zer1, imp_t, imp_f, ofN_nI, sdead, f20, f21, not_true_eq_false, upC_self, upC_ne, upC_upC, retC, fitC, isRefT, Option.toList_some, Option.toList_none, List.cons_append, List.nil_append, Nat.lt_add_one, Nat.zero_lt_succ, Nat.le_refl, Nat.add_zero, Nat.zero_add, Nat.one_ne_zero, Nat.zero_ne_one, Nat.lt_irrefl, List.length_set, fa_X5_readEither, hi, hd, hQ, mr_X5_readEither, rM_0, rM_1, rM_2, rM_3, rM_4, ru_0, ru_1, ru_2, ru_3, ru_4, rO_len, rg_0, rg_1, rg_2, rg_3, rg_4, rg_5, rg_6, rg_7, rg_8, rg_9, rg_10, rs_0, rs_1, rs_5, rs_6, rs_8, rs_9, rs_10]
      try simp only [m1f]
      try simp (disch := omega) only [nmod, nI_leI, nI_ltI, nI_eq, nI_clamp, vin_nI, nI_1, fa_lit, nI_add, nI_rm3, nI_rm2, pk_rem, pk_mul, pk_sub, pk_div, nI_eM, nI_Me, nI_pM, nI_pMz, nI_pM0, M1_lt, M1_le, nI_ltM, nI_leM, i8_nI, true_and, and_true, false_implies, true_implies, not_false_eq_true, not_true_eq_false, ne_eq, implies_true, Nat.not_lt_zero, Nat.zero_le, ite_min, max0, Nat.reduceLT, Nat.reduceLeDiff, Nat.reduceEqDiff, Nat.reduceAdd, Nat.reduceMul]
      try simp only [m1u]
      exact L
    · rw [rI 5 (by omega) (by omega) (by omega)]; exact h5
    · rw [r10]; exact aeU_01 h10
end Rd3
