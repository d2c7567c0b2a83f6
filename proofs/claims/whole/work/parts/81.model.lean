-- the reference: a new object
set_option maxRecDepth 100000
set_option maxHeartbeats 4000000
theorem Tr.mem {G : Gam} {d i n z : Nat} {a : List Value} {F F' : Mf} {Q : Po} (e : F = F') (h : Tr G d i a n z F' Q) : Tr G d i a n z F Q := by rw [e]; exact h
def I0m : Nat → Int32 := fun i => if i = 19 then -1 else if i = 23 then -1 else 0
section N1s
variable {G : Gam} {d z : Nat} {f : Mf}
theorem t9_init (hG : Ok G) (hd1 : 4 ≤ d) (hz : z + 20000 ≤ SCAP) (h : f 31 = cO 9 (new0 9)) (tb : Nat → Nat) : Tr G d 123 [.ref 31] 32 z f (fun v n' z' f' => v = none ∧ n' = 49 ∧ z' = z + 14599 ∧ ∃ I W A s, f' = mM f I W A s ∧ RM S0s L0 tb 0 0 (-1) none I W A s) := by
  have hCAP : CAP = 600000 := rfl
  have hSCAP : SCAP = 7302249 := rfl
  rw [show new0 9 = [.null, .null, .int 0, .null, .null, .null, .null, .null, .int 0, .int 0, .int 0, .int 0, .int 0, .int 0, .int 0, .int 0, .int 0, .int 0, .int 0, .int 0, .null, .null, .int 0, .int 0, .null, .null, .null, .null, .null, .null, .null, .null, .int 0, .int 0, .int 0, .int 0] from rfl] at h
  have c1075 : (1075 : Int32).toNatClampNeg = 1075 := rfl
  have l1075 : ((1075 : Int32) < 0) = False := eq_false (by decide)
  have c48 : (48 : Int32).toNatClampNeg = 48 := rfl
  have l48 : ((48 : Int32) < 0) = False := eq_false (by decide)
  have c820 : (820 : Int32).toNatClampNeg = 820 := rfl
  have l820 : ((820 : Int32) < 0) = False := eq_false (by decide)
  have c400 : (400 : Int32).toNatClampNeg = 400 := rfl
  have l400 : ((400 : Int32) < 0) = False := eq_false (by decide)
  have c420 : (420 : Int32).toNatClampNeg = 420 := rfl
  have l420 : ((420 : Int32) < 0) = False := eq_false (by decide)
  have c9 : (9 : Int32).toNatClampNeg = 9 := rfl
  have l9 : ((9 : Int32) < 0) = False := eq_false (by decide)
  have c10000 : (10000 : Int32).toNatClampNeg = 10000 := rfl
  have l10000 : ((10000 : Int32) < 0) = False := eq_false (by decide)
  have c100 : (100 : Int32).toNatClampNeg = 100 := rfl
  have l100 : ((100 : Int32) < 0) = False := eq_false (by decide)
  have c10 : (10 : Int32).toNatClampNeg = 10 := rfl
  have l10 : ((10 : Int32) < 0) = False := eq_false (by decide)
  have c610 : (610 : Int32).toNatClampNeg = 610 := rfl
  have l610 : ((610 : Int32) < 0) = False := eq_false (by decide)
  have c3 : (3 : Int32).toNatClampNeg = 3 := rfl
  have l3 : ((3 : Int32) < 0) = False := eq_false (by decide)
  refine Tr.of2 (ls0 := [.ref 31]) hG mo_X9_init (Nat.le_of_ble_eq_true rfl) rfl ?_
  intro X hi hd hXn hXz hXf hQ
  refine wp_sound (by rw [hi]; exact ok_X9_init) (hd := [161]) 400 _ _ _ _ _ _ ?_
  simp only [wp, stp, List.mem_cons, List.not_mem_nil, Nat.reduceEqDiff, or_false, or_self, false_or, or_true, true_or, Nat.reduceAdd, ↓reduceIte, List.getElem?_cons_zero, List.getElem?_cons_succ, nthV, List.set_cons_zero, List.set_cons_succ, noL, popA, catS, Value.category, List.length_cons, List.length_nil, Nat.reduceLT, Nat.reduceLeDiff, true_and, and_true, one0, zer1, imp_t, imp_f, ofN_nI, sdead, f20, f21, not_true_eq_false, upC_ap, upC_upC, retC, fitC, isRefT, Option.toList_some, Option.toList_none, List.cons_append, List.nil_append, Nat.lt_add_one, Nat.zero_lt_succ, Nat.le_refl, Nat.add_zero, Nat.zero_add, Nat.one_ne_zero, Nat.zero_ne_one, Nat.lt_irrefl, List.length_set, fa_X9_init, hi, hd, hQ, mr_X9_init, h, c1075, l1075, c48, l48, c820, l820, c400, l400, c420, l420, c9, l9, c10000, l10000, c100, l100, c10, l10, c610, l610, c3, l3, not_false_eq_true, mM_31, mM_32, mM_33, mM_34, mM_35, mM_36, mM_37, mM_38, mM_39, mM_40, mM_41, mM_42, mM_43, mM_44, mM_45, mM_46, mM_47, mM_48, mu_31, mu_32, mu_33, mu_34, mu_35, mu_36, mu_37, mu_38, mu_39, mu_40, mu_41, mu_42, mu_43, mu_44, mu_45, mu_46, mu_47, mu_48, mO_len, mg_0, mg_1, mg_2, mg_3, mg_4, mg_5, mg_6, mg_7, mg_8, mg_9, mg_10, mg_11, mg_12, mg_13, mg_14, mg_15, mg_16, mg_17, mg_18, mg_19, mg_20, mg_21, mg_22, mg_23, mg_24, mg_25, mg_26, mg_27, mg_28, mg_29, mg_30, mg_31, mg_32, mg_33, mg_34, mg_35, ms_2, ms_8, ms_9, ms_10, ms_11, ms_12, ms_13, ms_14, ms_15, ms_16, ms_17, ms_18, ms_19, ms_22, ms_23, ms_32, ms_33, ms_34, ms_35, cN_0, vN_0, cN_1, vN_1, cN_2, vN_2, cN_3, vN_3, cN_4, vN_4, cN_5, vN_5, cN_6, vN_6, cN_7, vN_7, cN_8, vN_8, cN_9, vN_9, cN_190, vN_190]
  refine ⟨by omega, by omega, by omega, by omega, by omega, by omega, by omega, by omega, by omega, by omega, by omega, by omega, by omega, by omega, by omega, by omega, by omega, by omega, by omega, by omega, by omega, by omega, by omega, by omega, by omega, by omega, by omega, by omega, by omega, by omega, by omega, by omega, by omega, by omega, by omega, by omega, _, Tr.mem (F' := mM f I0m (fun _ => 0) (fun _ _ => 0) (0, fun _ => 0, fun _ => 0, fun _ => 0, fun _ => 0)) ?_ (t9_begins hG 6 6), ?_⟩
  · funext x
    unfold upC mM
    by_cases e31 : x = 31
    · subst e31; rfl
    by_cases e32 : x = 32
    · subst e32; rfl
    by_cases e33 : x = 33
    · subst e33; rfl
    by_cases e34 : x = 34
    · subst e34; rfl
    by_cases e35 : x = 35
    · subst e35; rfl
    by_cases e36 : x = 36
    · subst e36; rfl
    by_cases e37 : x = 37
    · subst e37; rfl
    by_cases e38 : x = 38
    · subst e38; rfl
    by_cases e39 : x = 39
    · subst e39; rfl
    by_cases e40 : x = 40
    · subst e40; rfl
    by_cases e41 : x = 41
    · subst e41; rfl
    by_cases e42 : x = 42
    · subst e42; rfl
    by_cases e43 : x = 43
    · subst e43; rfl
    by_cases e44 : x = 44
    · subst e44; rfl
    by_cases e45 : x = 45
    · subst e45; rfl
    by_cases e46 : x = 46
    · subst e46; rfl
    by_cases e47 : x = 47
    · subst e47; rfl
    by_cases e48 : x = 48
    · subst e48; rfl
    simp only [if_neg e31, if_neg e32, if_neg e33, if_neg e34, if_neg e35, if_neg e36, if_neg e37, if_neg e38, if_neg e39, if_neg e40, if_neg e41, if_neg e42, if_neg e43, if_neg e44, if_neg e45, if_neg e46, if_neg e47, if_neg e48]
  rintro v n1 z1 f1 ⟨rfl, rfl, rfl, W', rfl, e0, ez⟩
  refine wpC_sound (PC_ok hG _) (by rw [hi]; exact ok_X9_init) (hd := [161]) 400 _ _ _ _ _ _ ?_
  simp only [wp, stp, List.mem_cons, List.not_mem_nil, Nat.reduceEqDiff, or_false, or_self, false_or, or_true, true_or, Nat.reduceAdd, ↓reduceIte, List.getElem?_cons_zero, List.getElem?_cons_succ, nthV, List.set_cons_zero, List.set_cons_succ, noL, popA, catS, Value.category, List.length_cons, List.length_nil, Nat.reduceLT, Nat.reduceLeDiff, true_and, and_true, one0, zer1, imp_t, imp_f, ofN_nI, sdead, f20, f21, not_true_eq_false, upC_ap, upC_upC, retC, fitC, isRefT, Option.toList_some, Option.toList_none, List.cons_append, List.nil_append, Nat.lt_add_one, Nat.zero_lt_succ, Nat.le_refl, Nat.add_zero, Nat.zero_add, Nat.one_ne_zero, Nat.zero_ne_one, Nat.lt_irrefl, List.length_set, fa_X9_init, hi, hd, hQ, mr_X9_init, mM_31, mM_32, mM_33, mM_34, mM_35, mM_36, mM_37, mM_38, mM_39, mM_40, mM_41, mM_42, mM_43, mM_44, mM_45, mM_46, mM_47, mM_48, mu_31, mu_32, mu_33, mu_34, mu_35, mu_36, mu_37, mu_38, mu_39, mu_40, mu_41, mu_42, mu_43, mu_44, mu_45, mu_46, mu_47, mu_48, mO_len, mg_0, mg_1, mg_2, mg_3, mg_4, mg_5, mg_6, mg_7, mg_8, mg_9, mg_10, mg_11, mg_12, mg_13, mg_14, mg_15, mg_16, mg_17, mg_18, mg_19, mg_20, mg_21, mg_22, mg_23, mg_24, mg_25, mg_26, mg_27, mg_28, mg_29, mg_30, mg_31, mg_32, mg_33, mg_34, mg_35, ms_2, ms_8, ms_9, ms_10, ms_11, ms_12, ms_13, ms_14, ms_15, ms_16, ms_17, ms_18, ms_19, ms_22, ms_23, ms_32, ms_33, ms_34, ms_35, cN_0, vN_0, cN_1, vN_1, cN_2, vN_2, cN_3, vN_3, cN_4, vN_4, cN_5, vN_5, cN_6, vN_6, cN_7, vN_7, cN_8, vN_8, cN_9, vN_9, cN_190, vN_190, wpC, stpC, PC, PV, reduceCtorEq]
  refine ⟨_, _, _, _, rfl, ?_⟩
  have hv : HV (clrS S0s 6 6) L0 I0m W' (0, fun _ => 0, fun _ => 0, fun _ => 0, fun _ => 0) := HV.clr (S := S0s) (s := (0, fun _ => 0, fun _ => 0, fun _ => 0, fun _ => 0)) rfl (by decide) e0 ez
  have es : clrS S0s 6 6 = S0s := by
    funext a b; unfold clrS S0s
    by_cases ha : a = 0
    · subst ha
      show (if b = 0 then 6 else if b = 1 then 6 else if b = 2 then (0 : Int32) else if b = 5 then -1 else 0) = (if b = 0 then 6 else if b = 1 then 6 else if b = 5 then -1 else 0)
      by_cases h0 : b = 0
      · rw [if_pos h0, if_pos h0]
      · by_cases h1 : b = 1
        · rw [if_neg h0, if_pos h1, if_neg h0, if_pos h1]
        · by_cases h2 : b = 2
          · subst h2; rfl
          · rw [if_neg h0, if_neg h1, if_neg h2, if_neg h0, if_neg h1]
    · rw [if_neg ha, if_neg ha]
  rw [es] at hv
  exact ⟨hv, ⟨rfl, by omega, fun j hj => absurd hj (Nat.not_lt_zero j)⟩, ⟨rfl, rfl⟩, rfl⟩
end N1s
