-- Days: the noon; an evening
set_option maxRecDepth 100000
set_option maxHeartbeats 4000000
/-- a write to low cells outside of the camp's world -/
theorem CW.lo {S : Sta} {L : Lw} {lp N Z K n z k : Nat} {f : Mf} {c : Cel} (h : CW S L lp N Z K f n z) (hk : 24 ≤ k) (hk2 : k < 49) : CW S L lp N Z K (upC f k c) n z :=
  h.off (fun x hx => upC_ne _ _ (by omega)) (fun x hx => upC_ne _ _ (by omega)) (h.2.2.2.2.1.cong (upC_ne _ _ (by omega)) (upC_ne _ _ (by omega))) (h.2.2.2.2.2.1.cong (upC_ne _ _ (by omega)) (upC_ne _ _ (by omega)))
theorem CW.mv {S : Sta} {L : Lw} {lp N Z K n z t : Nat} {f : Mf} {a : Nat → Int32} {v : Int32} (h : CW S L lp N Z K f n z) (ha : f 3 = cI 10 a) : CW (upS S 2 t v) L lp N Z K (upC f 3 (cI 10 (upd a t v))) n z :=
  h.camp (by rw [upS_row (by omega)]) (by rw [upS_row (by omega)]) (upS_row (by omega)) (h.1.arr_2 ha t v) (fun x hx => upC_ne _ _ (by omega))
theorem nn1_go {L : Lw} {th : Int32} {wl : Option (Nat → Option Nat)} {S : Sta} {k : Nat} (h : goP (stp1 th wl (nn1 L th wl S k).1 k) k (wsh1 L th wl (nn1 L th wl S k).1 k)) : nn1 L th wl S (k + 1) = (upS (stp1 th wl (nn1 L th wl S k).1 k) 2 k (eO (wsh1 L th wl (nn1 L th wl S k).1 k)), upd (nn1 L th wl S k).2.1 k 1, (nn1 L th wl S k).2.2 + 1) := by
  rw [nn1, if_pos h]
theorem nn1_st {L : Lw} {th : Int32} {wl : Option (Nat → Option Nat)} {S : Sta} {k : Nat} (h : ¬ goP (stp1 th wl (nn1 L th wl S k).1 k) k (wsh1 L th wl (nn1 L th wl S k).1 k)) : nn1 L th wl S (k + 1) = (stp1 th wl (nn1 L th wl S k).1 k, upd (nn1 L th wl S k).2.1 k 0, (nn1 L th wl S k).2.2) := by
  rw [nn1, if_neg h]
theorem nn1_cnt {L : Lw} {th : Int32} {wl : Option (Nat → Option Nat)} {S : Sta} : ∀ k, (nn1 L th wl S k).2.2 ≤ k
  | 0 => Nat.le_refl _
  | k + 1 => by
    have := nn1_cnt (L := L) (th := th) (wl := wl) (S := S) k
    by_cases h : goP (stp1 th wl (nn1 L th wl S k).1 k) k (wsh1 L th wl (nn1 L th wl S k).1 k)
    · rw [nn1_go h]; dsimp only; omega
    · rw [nn1_st h]; dsimp only; omega
abbrev FD : List Nat := [1, 3, 13, 14, 15, 20, 21, 25, 26]
section Days2
variable {G : Gam} {d n z lp N Z K t : Nat} {f : Mf} {S : Sta} {L : Lw}
theorem t_noon (hG : Ok G) (hd1 : 6 ≤ d) (hS : VS S) (hW : CW S L lp N Z K f n z) {wi go pa : Nat → Int32} (hD : DY f wi go pa) (th : Int32) : Tr G d 30 [.ref 24, .int th] n z f (fun v n' z' f' => v = some (.int (nI (noonS L th S).2.2)) ∧ CW (noonS L th S).1 L lp N Z K f' n' z' ∧ (∃ wi' go', DY f' wi' go' pa ∧ ∀ t, t < tn S → go' t = (noonS L th S).2.1 t) ∧ FRM FD f n f' ∧ n ≤ n') := by
  obtain ⟨⟨b1, b2⟩, -⟩ := id hS.1.1
  refine Tr.of2 (ls0 := [.ref 24, .int th, dead, dead, dead]) hG mo_X1_noon (Nat.le_of_ble_eq_true rfl) rfl ?_
  intro X hi hd hXn hXz hXf hQ
  have main : ∀ (wl : Option (Nat → Option Nat)) (S0 : Sta), VS S0 → SmQ S S0 → (∀ g, wl = some g → ∀ t c, g t = some c → c < 100) → ((S 0 7 = 0 ∧ wl = none) ∨ (¬ S 0 7 = 0 ∧ ∃ g, wl = some g)) → noonS L th S = nn1 L th wl S0 (tn S) →
      ∀ k' k n' z' g wi' go' u4, k + k' = tn S → CW (nn1 L th wl S0 k).1 L lp N Z K g n' z' → DY g wi' go' pa → (∀ w, wl = some w → ∀ t, t < tn S → wi' t = eO (w t)) → (∀ t, t < k → go' t = (nn1 L th wl S0 k).2.1 t) → FRM FD f n g → n ≤ n' → V G X 45 [.ref 24, .int th, .int (nI (nn1 L th wl S0 k).2.2), .int (nI k), u4] [] n' z' g := by
    intro wl S0 hS0 hSQ hwl hca heq k'
    induction k' with
    | zero =>
      intro k n' z' g wi' go' u4 hk hW' hD' hwi hgo hF' hn'
      have : k = tn S := by omega
      subst this
      obtain ⟨hv, hq⟩ := nn1_ok (L := L) (th := th) hS0 hwl (tn S) (by rw [hSQ.etn]; exact Nat.le_refl _)
      have hq' : (nn1 L th wl S0 (tn S)).1 0 3 = nI (tn S) := (hq.1 3 (by omega)).trans ((hSQ.1 3 (by omega)).trans b1)
      have c1 := hW'.1.1
      have d1 := hD'.1
      refine wp_sound (by rw [hi]; exact ok_X1_noon) (hd := [12, 34, 45, 81, 113]) 400 _ _ _ _ _ _ ?_
      simp only [wp, stp, List.mem_cons, List.not_mem_nil, Nat.reduceEqDiff, or_false, or_self, false_or, or_true, true_or, Nat.reduceAdd, ↓reduceIte, List.getElem?_cons_zero, List.getElem?_cons_succ, nthV, List.set_cons_zero, List.set_cons_succ, noL, popA, catS, Value.category, List.length_cons, List.length_nil, Nat.reduceLT, Nat.reduceLeDiff, true_and, and_true, one0, zer1, imp_t, imp_f, ofN_nI, sdead, f20, f21, not_true_eq_false, upC_ap, upC_upC, retC, fitC, isRefT, Option.toList_some, Option.toList_none, List.cons_append, List.nil_append, Nat.lt_add_one, Nat.zero_lt_succ, Nat.le_refl, Nat.add_zero, Nat.zero_add, Nat.one_ne_zero, Nat.zero_ne_one, Nat.lt_irrefl, List.length_set, fa_X1_noon, hi, hd, hQ, mr_X1_noon, c1, d1, hq']
      exact ⟨fun _ => ⟨by rw [heq], by rw [heq]; exact hW', ⟨wi', go', hD', by rw [heq]; exact hgo⟩, hF', hn'⟩, fun h => absurd (Int32.le_refl _) h⟩
    | succ k' ih =>
      intro k n' z' g wi' go' u4 hk hW' hD' hwi hgo hF' hn'
      obtain ⟨hv, hq⟩ := nn1_ok (L := L) (th := th) hS0 hwl k (by rw [hSQ.etn]; omega)
      have hcn := nn1_cnt (L := L) (th := th) (wl := wl) (S := S0) k
      have go1 := @nn1_go L th wl S0 k
      have st1 := @nn1_st L th wl S0 k
      have ih' := fun n' z' g wi' go' u4 => ih (k + 1) n' z' g wi' go' u4 (by omega)
      have hwlt : ∀ c, wsh1 L th wl (nn1 L th wl S0 k).1 k = some c → c < 100 := fun c hc => by
        cases wl with
        | none => exact wishS_lt hc
        | some g => exact hwl g rfl k c hc
      have kd : VS (stp1 th wl (nn1 L th wl S0 k).1 k) ∧ SmQ S0 (stp1 th wl (nn1 L th wl S0 k).1 k) := by
        cases wl with
        | none => exact ⟨hv.dr _, hq.dr _⟩
        | some g => exact ⟨hv, hq⟩
      have hW0 := hW'
      obtain ⟨R, hR⟩ : ∃ R, R = nn1 L th wl S0 k := ⟨_, rfl⟩
      rw [← hR] at hv hq hcn go1 st1 hwlt kd hW0 hgo ⊢
      obtain ⟨S1, hS1⟩ : ∃ S1, S1 = stp1 th wl R.1 k := ⟨_, rfl⟩
      obtain ⟨w, hw⟩ : ∃ w, w = wsh1 L th wl R.1 k := ⟨_, rfl⟩
      rw [← hS1, ← hw] at go1 st1
      rw [← hw] at hwlt
      rw [← hS1] at kd
      obtain ⟨kv, kq⟩ := kd
      have kt : tn S1 = tn S := kq.etn.trans hSQ.etn
      have k3 : S1 0 3 = nI (tn S) := (kq.1 3 (by omega)).trans ((hSQ.1 3 (by omega)).trans b1)
      have hct : (nI k).toNatClampNeg = k := nI_clamp (by omega)
      have hit : vp_in (nI k) 10 := (vin_nI (by omega)).mpr (by omega)
      -- the end of a step
      have hend0 : ∀ n' z' g wi' go2 u4, ¬ goP S1 k w → CW S1 L lp N Z K g n' z' → DY g wi' go2 pa → (∀ w, wl = some w → ∀ t, t < tn S → wi' t = eO (w t)) → (∀ t, t < k → go2 t = R.2.1 t) → FRM FD f n g → n ≤ n' → V G X 121 [.ref 24, .int th, .int (nI R.2.2), .int (nI k), u4] [.int 0, .int (nI k), .ref 26] n' z' g := by
        intro n' z' g wi' go2 u4 hng a1 a2 a3 a4 a5 a6
        obtain ⟨d1, d2, d3, d4⟩ := id a2
        have c1 := a1.1.1
        have e26 : ∀ x, ¬ x = 26 → upC g 26 (cZ 10 (upd go2 k 0)) x = g x := fun x h => upC_ne _ _ h
        have e0 : upd go2 k 0 k = 0 := by rw [upd_ap, if_pos rfl]
        refine wp_sound (by rw [hi]; exact ok_X1_noon) (hd := [12, 34, 45, 81, 113]) 400 _ _ _ _ _ _ ?_
        simp only [wp, stp, List.mem_cons, List.not_mem_nil, Nat.reduceEqDiff, or_false, or_self, false_or, or_true, true_or, Nat.reduceAdd, ↓reduceIte, List.getElem?_cons_zero, List.getElem?_cons_succ, nthV, List.set_cons_zero, List.set_cons_succ, noL, popA, catS, Value.category, List.length_cons, List.length_nil, Nat.reduceLT, Nat.reduceLeDiff, true_and, and_true, one0, zer1, imp_t, imp_f, ofN_nI, sdead, f20, f21, not_true_eq_false, upC_ap, upC_upC, retC, fitC, isRefT, Option.toList_some, Option.toList_none, List.cons_append, List.nil_append, Nat.lt_add_one, Nat.zero_lt_succ, Nat.le_refl, Nat.add_zero, Nat.zero_add, Nat.one_ne_zero, Nat.zero_ne_one, Nat.lt_irrefl, List.length_set, fa_X1_noon, hi, hd, hQ, mr_X1_noon, c1, d1, d3, hct, e0, Int32.and_zero, Int32.zero_and]
        refine ⟨hit, hit, ?_⟩
        have key := ih' n' z' (upC g 26 (cZ 10 (upd go2 k 0))) wi' (upd go2 k 0) u4
        rw [st1 hng] at key
        rw [nI_1]
        intro _
        refine key (a1.lo (by omega) (by omega)) ⟨by rw [e26 _ (by omega)]; exact d1, by rw [e26 _ (by omega)]; exact d2, upC_self _ _ _, by rw [e26 _ (by omega)]; exact d4⟩ a3 (fun t ht => ?_) (a5.up (by omega) (by simp)) a6
        show upd go2 k 0 t = upd R.2.1 k 0 t
        by_cases e : t = k
        · subst e; rw [upd_ap, upd_ap, if_pos rfl, if_pos rfl]
        · rw [upd_ap, upd_ap, if_neg e, if_neg e]; exact a4 t (by omega)
      have hend1 : ∀ n' z' g wi' go2 c, w = some c → csN S1 k c → CW S1 L lp N Z K g n' z' → DY g wi' go2 pa → (∀ w, wl = some w → ∀ t, t < tn S → wi' t = eO (w t)) → (∀ t, t < k → go2 t = R.2.1 t) → FRM FD f n g → n ≤ n' → V G X 121 [.ref 24, .int th, .int (nI R.2.2), .int (nI k), .int (nI c)] [.int 1, .int (nI k), .ref 26] n' z' g := by
        intro n' z' g wi' go2 c hwc hcs a1 a2 a3 a4 a5 a6
        have hng : goP S1 k w := ⟨c, hwc, hcs⟩
        obtain ⟨d1, d2, d3, d4⟩ := id a2
        obtain ⟨c1, -, ya, -, -, -, -, -, -, -, -, c3, c3', -⟩ := id a1.1
        have e26 : ∀ x, ¬ x = 26 → upC g 26 (cZ 10 (upd go2 k 1)) x = g x := fun x h => upC_ne _ _ h
        have e0 : upd go2 k 1 k = 1 := by rw [upd_ap, if_pos rfl]
        have e11 : (1 : Int32) &&& 1 = 1 := rfl
        refine wp_sound (by rw [hi]; exact ok_X1_noon) (hd := [12, 34, 45, 81, 113]) 400 _ _ _ _ _ _ ?_
        simp only [wp, stp, List.mem_cons, List.not_mem_nil, Nat.reduceEqDiff, or_false, or_self, false_or, or_true, true_or, Nat.reduceAdd, ↓reduceIte, List.getElem?_cons_zero, List.getElem?_cons_succ, nthV, List.set_cons_zero, List.set_cons_succ, noL, popA, catS, Value.category, List.length_cons, List.length_nil, Nat.reduceLT, Nat.reduceLeDiff, true_and, and_true, one0, zer1, imp_t, imp_f, ofN_nI, sdead, f20, f21, not_true_eq_false, upC_ap, upC_upC, retC, fitC, isRefT, Option.toList_some, Option.toList_none, List.cons_append, List.nil_append, Nat.lt_add_one, Nat.zero_lt_succ, Nat.le_refl, Nat.add_zero, Nat.zero_add, Nat.one_ne_zero, Nat.zero_ne_one, Nat.lt_irrefl, List.length_set, fa_X1_noon, hi, hd, hQ, mr_X1_noon, c1, c3, d1, d3, hct, e0, e11]
        refine ⟨hit, hit, hit, ?_⟩
        have e3 : ∀ x, ¬ x = 3 → ¬ x = 26 → upC (upC g 26 (cZ 10 (upd go2 k 1))) 3 (cI 10 (upd ya k (nI c))) x = g x := fun x h h2 => by rw [upC_ne _ _ h]; exact upC_ne _ _ h2
        have key := ih' n' z' (upC (upC g 26 (cZ 10 (upd go2 k 1))) 3 (cI 10 (upd ya k (nI c)))) wi' (upd go2 k 1) (.int (nI c))
        rw [go1 hng, hwc] at key
        rw [nI_1, nI_1]
        refine key ((a1.lo (by omega) (by omega)).mv (by rw [e26 _ (by omega)]; exact c3)) ⟨by rw [e3 _ (by omega) (by omega)]; exact d1, by rw [e3 _ (by omega) (by omega)]; exact d2, by rw [upC_ne _ _ (by omega)]; exact upC_self _ _ _, by rw [e3 _ (by omega) (by omega)]; exact d4⟩ a3 (fun t ht => ?_) ((a5.up (by omega) (by simp)).up (by omega) (by simp)) a6
        show upd go2 k 1 t = upd R.2.1 k 1 t
        by_cases e : t = k
        · subst e; rw [upd_ap, upd_ap, if_pos rfl, if_pos rfl]
        · rw [upd_ap, upd_ap, if_neg e, if_neg e]; exact a4 t (by omega)
      have h81 : ∀ n' z' g wi' u4, CW S1 L lp N Z K g n' z' → DY g wi' go' pa → (∀ w, wl = some w → ∀ t, t < tn S → wi' t = eO (w t)) → FRM FD f n g → n ≤ n' → V G X 81 [.ref 24, .int th, .int (nI R.2.2), .int (nI k), u4] [.int (eO w)] n' z' g := by
        intro n' z' g wi' u4 a1 a2 a3 a5 a6
        have d1 := a2.1
        obtain ⟨c1, -, ya, fam, -, -, -, -, -, -, -, c3, c3', c4, c4', -⟩ := id a1.1
        cases hwc : w with
        | none =>
          refine wp_sound (by rw [hi]; exact ok_X1_noon) (hd := [12, 34, 45, 81, 113, 121]) 400 _ _ _ _ _ _ ?_
          simp only [wp, stp, List.mem_cons, List.not_mem_nil, Nat.reduceEqDiff, or_false, or_self, false_or, or_true, true_or, Nat.reduceAdd, ↓reduceIte, List.getElem?_cons_zero, List.getElem?_cons_succ, nthV, List.set_cons_zero, List.set_cons_succ, noL, popA, catS, Value.category, List.length_cons, List.length_nil, Nat.reduceLT, Nat.reduceLeDiff, true_and, and_true, one0, zer1, imp_t, imp_f, ofN_nI, sdead, f20, f21, not_true_eq_false, upC_ap, upC_upC, retC, fitC, isRefT, Option.toList_some, Option.toList_none, List.cons_append, List.nil_append, Nat.lt_add_one, Nat.zero_lt_succ, Nat.le_refl, Nat.add_zero, Nat.zero_add, Nat.one_ne_zero, Nat.zero_ne_one, Nat.lt_irrefl, List.length_set, fa_X1_noon, hi, hd, hQ, mr_X1_noon, d1, c1]
          refine ⟨fun _ => hend0 n' z' g wi' go' _ ?_ a1 a2 a3 hgo a5 a6, fun h => absurd rfl h⟩
          rintro ⟨c, h1, h2⟩
          rw [hwc] at h1; cases h1
        | some c =>
          have hc := hwlt c hwc
          rw [show eO (some c) = nI c from rfl]
          refine wp_sound (by rw [hi]; exact ok_X1_noon) (hd := [12, 34, 45, 81, 113, 121]) 400 _ _ _ _ _ _ ?_
          simp only [wp, stp, List.mem_cons, List.not_mem_nil, Nat.reduceEqDiff, or_false, or_self, false_or, or_true, true_or, Nat.reduceAdd, ↓reduceIte, List.getElem?_cons_zero, List.getElem?_cons_succ, nthV, List.set_cons_zero, List.set_cons_succ, noL, popA, catS, Value.category, List.length_cons, List.length_nil, Nat.reduceLT, Nat.reduceLeDiff, true_and, and_true, one0, zer1, imp_t, imp_f, ofN_nI, sdead, f20, f21, not_true_eq_false, upC_ap, upC_upC, retC, fitC, isRefT, Option.toList_some, Option.toList_none, List.cons_append, List.nil_append, Nat.lt_add_one, Nat.zero_lt_succ, Nat.le_refl, Nat.add_zero, Nat.zero_add, Nat.one_ne_zero, Nat.zero_ne_one, Nat.lt_irrefl, List.length_set, fa_X1_noon, hi, hd, hQ, mr_X1_noon, d1, c1, c4]
          try simp only [m1f]
          try simp (disch := omega) only [nmod, nI_leI, nI_ltI, nI_eq, nI_clamp, vin_nI, nI_1, fa_lit, nI_add, nI_rm3, nI_rm2, pk_rem, pk_mul, pk_sub, pk_div, nI_eM, nI_Me, nI_pM, nI_pMz, nI_pM0, M1_lt, M1_le, nI_ltM, nI_leM, i8_nI, true_and, and_true, false_implies, true_implies, not_false_eq_true, not_true_eq_false, ne_eq, implies_true, Nat.not_lt_zero, Nat.zero_le, ite_min, max0, Nat.reduceLT, Nat.reduceLeDiff, Nat.reduceEqDiff, Nat.reduceAdd, Nat.reduceMul]
          try simp only [m1u]
          refine ⟨by omega, by omega, _, t_couldStand hG (by omega) a1.1 kv.1.1 _ _ _, ?_⟩
          rintro v n2 z2 f2 ⟨rfl, rfl, rfl, rfl⟩
          rw [c4' k (by omega)]
          refine wp_sound (by rw [hi]; exact ok_X1_noon) (hd := [12, 34, 45, 81, 113, 121]) 400 _ _ _ _ _ _ ?_
          simp only [wp, stp, List.mem_cons, List.not_mem_nil, Nat.reduceEqDiff, or_false, or_self, false_or, or_true, true_or, Nat.reduceAdd, ↓reduceIte, List.getElem?_cons_zero, List.getElem?_cons_succ, nthV, List.set_cons_zero, List.set_cons_succ, noL, popA, catS, Value.category, List.length_cons, List.length_nil, Nat.reduceLT, Nat.reduceLeDiff, true_and, and_true, one0, zer1, imp_t, imp_f, ofN_nI, sdead, f20, f21, not_true_eq_false, upC_ap, upC_upC, retC, fitC, isRefT, Option.toList_some, Option.toList_none, List.cons_append, List.nil_append, Nat.lt_add_one, Nat.zero_lt_succ, Nat.le_refl, Nat.add_zero, Nat.zero_add, Nat.one_ne_zero, Nat.zero_ne_one, Nat.lt_irrefl, List.length_set, fa_X1_noon, hi, hd, hQ, mr_X1_noon, d1, c1, bI_0]
          refine ⟨fun h => hend0 _ _ _ wi' go' _ ?_ a1 a2 a3 hgo a5 a6, fun h => hend1 _ _ _ wi' go' c hwc (Decidable.not_not.mp h) a1 a2 a3 hgo a5 a6⟩
          rintro ⟨c', h1, h2⟩
          rw [hwc] at h1; cases h1
          exact h h2
      have c1 := hW0.1.1
      obtain ⟨d1, d2, d3, d4⟩ := id hD'
      have q3 : R.1 0 3 = nI (tn S) := (hq.1 3 (by omega)).trans ((hSQ.1 3 (by omega)).trans b1)
      have q7 : R.1 0 7 = S 0 7 := (hq.1 7 (by omega)).trans (hSQ.1 7 (by omega))
      refine wp_sound (by rw [hi]; exact ok_X1_noon) (hd := [12, 34, 45, 81, 113]) 400 _ _ _ _ _ _ ?_
      simp only [wp, stp, List.mem_cons, List.not_mem_nil, Nat.reduceEqDiff, or_false, or_self, false_or, or_true, true_or, Nat.reduceAdd, ↓reduceIte, List.getElem?_cons_zero, List.getElem?_cons_succ, nthV, List.set_cons_zero, List.set_cons_succ, noL, popA, catS, Value.category, List.length_cons, List.length_nil, Nat.reduceLT, Nat.reduceLeDiff, true_and, and_true, one0, zer1, imp_t, imp_f, ofN_nI, sdead, f20, f21, not_true_eq_false, upC_ap, upC_upC, retC, fitC, isRefT, Option.toList_some, Option.toList_none, List.cons_append, List.nil_append, Nat.lt_add_one, Nat.zero_lt_succ, Nat.le_refl, Nat.add_zero, Nat.zero_add, Nat.one_ne_zero, Nat.zero_ne_one, Nat.lt_irrefl, List.length_set, fa_X1_noon, hi, hd, hQ, mr_X1_noon, c1, d1, d2, q3, q7, hct]
      try simp only [m1f]
      try simp (disch := omega) only [nmod, nI_leI, nI_ltI, nI_eq, nI_clamp, vin_nI, nI_1, fa_lit, nI_add, nI_rm3, nI_rm2, pk_rem, pk_mul, pk_sub, pk_div, nI_eM, nI_Me, nI_pM, nI_pMz, nI_pM0, M1_lt, M1_le, nI_ltM, nI_leM, i8_nI, true_and, and_true, false_implies, true_implies, not_false_eq_true, not_true_eq_false, ne_eq, implies_true, Nat.not_lt_zero, Nat.zero_le, ite_min, max0, Nat.reduceLT, Nat.reduceLeDiff, Nat.reduceEqDiff, Nat.reduceAdd, Nat.reduceMul]
      try simp only [m1u]
      refine ⟨fun h => absurd h (by omega), fun _ => ⟨fun h7 => ⟨by omega, _, t_wishOf hG (by omega) hv hW0 hD' (by rw [hq.etn, hSQ.etn]; omega) th, ?_⟩, fun h7 => ?_⟩⟩
      · rintro v n2 z2 f2 ⟨rfl, hW2, hF2, hn2⟩
        rcases hca with ⟨-, ew⟩ | ⟨h, -⟩
        · have e1 : S1 = upS R.1 0 2 (drS R.1 th k) := by rw [hS1, ew]; rfl
          have e2 : w = wishS R.1 L th k := by rw [hw, ew]; rfl
          rw [← e2]
          refine h81 n2 z2 f2 wi' _ (by rw [e1]; exact hW2) (hD'.cong (fun x h1 h2 => hF2.1 x (by omega) (by simp; omega))) hwi (hF'.trans hn' (hF2.mono (fun x hx => by simp at hx ⊢; omega))) (by omega)
        · exact absurd h7 h
      · rcases hca with ⟨h, -⟩ | ⟨-, gg, ew⟩
        · exact absurd h h7
        · have e1 : S1 = R.1 := by rw [hS1, ew]; rfl
          have e2 : w = gg k := by rw [hw, ew]; rfl
          rw [hwi gg ew k (by omega), ← e2]
          exact ⟨by omega, h81 n' z' g wi' _ (by rw [e1]; exact hW0) hD' hwi hF' hn'⟩
  have first : ¬ S 0 7 = 0 → ∀ k' k n' z' g wi', k + k' = tn S → CW (ww1 L th S k).1 L lp N Z K g n' z' → DY g wi' go pa → (∀ t, t < k → wi' t = eO ((ww1 L th S k).2 t)) → FRM FD f n g → n ≤ n' → V G X 12 [.ref 24, .int th, .int (nI k), dead, dead] [] n' z' g := by
    intro h7 k'
    induction k' with
    | zero =>
      intro k n' z' g wi' hk hW' hD' hwi hF' hn'
      have : k = tn S := by omega
      subst this
      obtain ⟨hv, hq, hl⟩ := ww1_ok (L := L) (th := th) hS (tn S)
      have q3 : (ww1 L th S (tn S)).1 0 3 = nI (tn S) := (hq.1 3 (by omega)).trans b1
      have c1 := hW'.1.1
      have d1 := hD'.1
      refine wp_sound (by rw [hi]; exact ok_X1_noon) (hd := [12, 34, 45, 81, 113]) 400 _ _ _ _ _ _ ?_
      simp only [wp, stp, List.mem_cons, List.not_mem_nil, Nat.reduceEqDiff, or_false, or_self, false_or, or_true, true_or, Nat.reduceAdd, ↓reduceIte, List.getElem?_cons_zero, List.getElem?_cons_succ, nthV, List.set_cons_zero, List.set_cons_succ, noL, popA, catS, Value.category, List.length_cons, List.length_nil, Nat.reduceLT, Nat.reduceLeDiff, true_and, and_true, one0, zer1, imp_t, imp_f, ofN_nI, sdead, f20, f21, not_true_eq_false, upC_ap, upC_upC, retC, fitC, isRefT, Option.toList_some, Option.toList_none, List.cons_append, List.nil_append, Nat.lt_add_one, Nat.zero_lt_succ, Nat.le_refl, Nat.add_zero, Nat.zero_add, Nat.one_ne_zero, Nat.zero_ne_one, Nat.lt_irrefl, List.length_set, fa_X1_noon, hi, hd, hQ, mr_X1_noon, c1, d1, q3]
      refine ⟨fun _ => ?_, fun h => absurd (Int32.le_refl _) h⟩
      exact main (some (ww1 L th S (tn S)).2) (ww1 L th S (tn S)).1 hv hq (fun g h => by cases h; exact hl) (Or.inr ⟨h7, _, rfl⟩) (by rw [noonS, if_neg h7]) (tn S) 0 n' z' g wi' go _ (by omega) hW' hD' (fun w h t ht => by cases h; exact hwi t ht) (fun t ht => absurd ht (Nat.not_lt_zero t)) hF' hn'
    | succ k' ih =>
      intro k n' z' g wi' hk hW' hD' hwi hF' hn'
      obtain ⟨hv, hq, hl⟩ := ww1_ok (L := L) (th := th) hS k
      have q3 : (ww1 L th S k).1 0 3 = nI (tn S) := (hq.1 3 (by omega)).trans b1
      have c1 := hW'.1.1
      obtain ⟨d1, d2, d3, d4⟩ := id hD'
      have hct : (nI k).toNatClampNeg = k := nI_clamp (by omega)
      refine wp_sound (by rw [hi]; exact ok_X1_noon) (hd := [12, 34, 45, 81, 113]) 400 _ _ _ _ _ _ ?_
      simp only [wp, stp, List.mem_cons, List.not_mem_nil, Nat.reduceEqDiff, or_false, or_self, false_or, or_true, true_or, Nat.reduceAdd, ↓reduceIte, List.getElem?_cons_zero, List.getElem?_cons_succ, nthV, List.set_cons_zero, List.set_cons_succ, noL, popA, catS, Value.category, List.length_cons, List.length_nil, Nat.reduceLT, Nat.reduceLeDiff, true_and, and_true, one0, zer1, imp_t, imp_f, ofN_nI, sdead, f20, f21, not_true_eq_false, upC_ap, upC_upC, retC, fitC, isRefT, Option.toList_some, Option.toList_none, List.cons_append, List.nil_append, Nat.lt_add_one, Nat.zero_lt_succ, Nat.le_refl, Nat.add_zero, Nat.zero_add, Nat.one_ne_zero, Nat.zero_ne_one, Nat.lt_irrefl, List.length_set, fa_X1_noon, hi, hd, hQ, mr_X1_noon, c1, d1, d2, q3]
      try simp only [m1f]
      try simp (disch := omega) only [nmod, nI_leI, nI_ltI, nI_eq, nI_clamp, vin_nI, nI_1, fa_lit, nI_add, nI_rm3, nI_rm2, pk_rem, pk_mul, pk_sub, pk_div, nI_eM, nI_Me, nI_pM, nI_pMz, nI_pM0, M1_lt, M1_le, nI_ltM, nI_leM, i8_nI, true_and, and_true, false_implies, true_implies, not_false_eq_true, not_true_eq_false, ne_eq, implies_true, Nat.not_lt_zero, Nat.zero_le, ite_min, max0, Nat.reduceLT, Nat.reduceLeDiff, Nat.reduceEqDiff, Nat.reduceAdd, Nat.reduceMul]
      try simp only [m1u]
      refine ⟨fun h => absurd h (by omega), fun _ => ⟨by omega, _, t_wishOf hG (by omega) hv hW' hD' (by rw [hq.etn]; omega) th, ?_⟩⟩
      rintro v n2 z2 f2 ⟨rfl, hW2, hF2, hn2⟩
      have hD2 := hD'.cong (fun x h1 h2 => hF2.1 x (by omega) (by simp; omega))
      obtain ⟨e1, e2, e3, e4⟩ := id hD2
      have c1 := hW2.1.1
      refine wp_sound (by rw [hi]; exact ok_X1_noon) (hd := [12, 34, 45, 81, 113]) 400 _ _ _ _ _ _ ?_
      simp only [wp, stp, List.mem_cons, List.not_mem_nil, Nat.reduceEqDiff, or_false, or_self, false_or, or_true, true_or, Nat.reduceAdd, ↓reduceIte, List.getElem?_cons_zero, List.getElem?_cons_succ, nthV, List.set_cons_zero, List.set_cons_succ, noL, popA, catS, Value.category, List.length_cons, List.length_nil, Nat.reduceLT, Nat.reduceLeDiff, true_and, and_true, one0, zer1, imp_t, imp_f, ofN_nI, sdead, f20, f21, not_true_eq_false, upC_ap, upC_upC, retC, fitC, isRefT, Option.toList_some, Option.toList_none, List.cons_append, List.nil_append, Nat.lt_add_one, Nat.zero_lt_succ, Nat.le_refl, Nat.add_zero, Nat.zero_add, Nat.one_ne_zero, Nat.zero_ne_one, Nat.lt_irrefl, List.length_set, fa_X1_noon, hi, hd, hQ, mr_X1_noon, c1, e1, e2, hct]
      try simp only [m1f]
      try simp (disch := omega) only [nmod, nI_leI, nI_ltI, nI_eq, nI_clamp, vin_nI, nI_1, fa_lit, nI_add, nI_rm3, nI_rm2, pk_rem, pk_mul, pk_sub, pk_div, nI_eM, nI_Me, nI_pM, nI_pMz, nI_pM0, M1_lt, M1_le, nI_ltM, nI_leM, i8_nI, true_and, and_true, false_implies, true_implies, not_false_eq_true, not_true_eq_false, ne_eq, implies_true, Nat.not_lt_zero, Nat.zero_le, ite_min, max0, Nat.reduceLT, Nat.reduceLeDiff, Nat.reduceEqDiff, Nat.reduceAdd, Nat.reduceMul]
      try simp only [m1u]
      refine ⟨by omega, ?_⟩
      have e25 : ∀ c x, ¬ x = 25 → upC f2 25 c x = f2 x := fun c x h => upC_ne _ _ h
      refine ih (k + 1) n2 z2 _ (upd wi' k (eO (wishS (ww1 L th S k).1 L th k))) (by omega) (hW2.lo (by omega) (by omega)) ⟨by rw [e25 _ _ (by omega)]; exact e1, upC_self _ _ _, by rw [e25 _ _ (by omega)]; exact e3, by rw [e25 _ _ (by omega)]; exact e4⟩ (fun t ht => ?_) ((hF'.trans hn' (hF2.mono (fun x hx => by simp at hx ⊢; omega))).up (by omega) (by simp)) (by omega)
      show _ = eO (if t = k then _ else _)
      by_cases e : t = k
      · rw [upd_ap, if_pos e, if_pos e]
      · rw [upd_ap, if_neg e, if_neg e]; exact hwi t (by omega)
  have c1 := hW.1.1
  have d1 := hD.1
  refine wp_sound (by rw [hi]; exact ok_X1_noon) (hd := [12, 34, 45, 81, 113]) 400 _ _ _ _ _ _ ?_
  simp only [wp, stp, List.mem_cons, List.not_mem_nil, Nat.reduceEqDiff, or_false, or_self, false_or, or_true, true_or, Nat.reduceAdd, ↓reduceIte, List.getElem?_cons_zero, List.getElem?_cons_succ, nthV, List.set_cons_zero, List.set_cons_succ, noL, popA, catS, Value.category, List.length_cons, List.length_nil, Nat.reduceLT, Nat.reduceLeDiff, true_and, and_true, one0, zer1, imp_t, imp_f, ofN_nI, sdead, f20, f21, not_true_eq_false, upC_ap, upC_upC, retC, fitC, isRefT, Option.toList_some, Option.toList_none, List.cons_append, List.nil_append, Nat.lt_add_one, Nat.zero_lt_succ, Nat.le_refl, Nat.add_zero, Nat.zero_add, Nat.one_ne_zero, Nat.zero_ne_one, Nat.lt_irrefl, List.length_set, fa_X1_noon, hi, hd, hQ, mr_X1_noon, c1, d1]
  refine ⟨fun h7 => ?_, fun h7 => first h7 (tn S) 0 n z f wi (by omega) hW hD (fun t ht => absurd ht (Nat.not_lt_zero t)) (FRM.refl _ _ _) (Nat.le_refl _)⟩
  exact main none S hS (SmQ.refl S) (fun g h => by cases h) (Or.inl ⟨h7, rfl⟩) (by rw [noonS, if_pos h7]) (tn S) 0 n z f wi go _ (by omega) hW hD (fun w h => by cases h) (fun t ht => absurd ht (Nat.not_lt_zero t)) (FRM.refl _ _ _) (Nat.le_refl _)
end Days2
