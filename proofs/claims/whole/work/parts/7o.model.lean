-- the reference's reader: units, products, sums
set_option maxRecDepth 100000
set_option maxHeartbeats 4000000
def ksA (a : Nat → Int32) (i : Nat) : Nat := (a (2 * i)).toNatClampNeg
def vsA (a : Nat → Int32) (i : Nat) : Nat := (a (2 * i + 1)).toNatClampNeg
/-- c steps were laid -/
def StA (a : Nat → Int32) (c : Nat) : Prop := ∀ i, i < c → a (2 * i) = nI (ksA a i) ∧ ksA a i < 23 ∧ ((ksA a i = 0 ∨ ksA a i = 16) → a (2 * i + 1) = nI (vsA a i) ∧ vsA a i < 10000)
/-- the reader stands at token k -/
def PI9 (tb : Nat → Nat) (len : Nat) (I : Nat → Int32) (k : Nat) : Prop := I 12 = nI (tkR (tK tb len k) (tV tb len k)) ∧ I 13 = nI (sqT tb len k) ∧ (tK tb len k = 258 → I 14 = nI (tV tb len k)) ∧ ∃ p, p ≤ len ∧ I 11 = nI p ∧ skp tb len p = sqT tb len (k + 1)
def PZ (tb : Nat → Nat) (len T sl : Nat) (I : Nat → Int32) (A : Nat → Nat → Int32) (k c : Nat) : Prop := PI9 tb len I k ∧ I 9 = nI c ∧ (c + sl ≤ k ∧ k ≤ T) ∧ StA (A 35) c
/-- what all reading stands on -/
def HR (tb : Nat → Nat) (len T : Nat) (f0 : Mf) (I : Nat → Int32) (A : Nat → Nat → Int32) : Prop := TkS (tK tb len) (tV tb len) T ∧ RTq tb len I A ∧ StrA f0
/-- how a reading ends -/
def RpQ {α : Type} (beh : (Nat → Int32) → Nat → Nat → α → Prop) (tb : Nat → Nat) (len T sl n z : Nat) (f0 : Mf) (I W : Nat → Int32) (A : Nat → Nat → Int32) (s : Sc) (c : Nat) (r : Res α) : Po := fun v n' z' f' => n' = n ∧ z' = z ∧ ∃ I' A', f' = mM f0 I' W A' s ∧ (∀ j, ¬ j = 35 → A' j = A j) ∧ (∀ j, j < 2 * c → A' 35 j = A 35 j) ∧ match r with
  | .inl (why, j) => v = some (.int 0) ∧ (∀ i, (i < 9 ∨ i = 10 ∨ i = 17 ∨ 18 < i) → I' i = I i) ∧ I' 15 = nI why ∧ I' 16 = nI (sqT tb len j)
  | .inr (k', e) => v = some (.int 1) ∧ (∀ i, ¬ (i = 9 ∨ (11 ≤ i ∧ i ≤ 14)) → I' i = I i) ∧ ∃ c', c ≤ c' ∧ PZ tb len T sl I' A' k' c' ∧ beh (A' 35) c c' e
def reE (a : Nat → Int32) (c c' : Nat) (e : EV) : Prop := ∀ F st, rnR F (ksA a) (vsA a) (c' - c) c st = some (e F :: st)
def reB (a : Nat → Int32) (c c' : Nat) (b : BV) : Prop := ∀ F st, rnR F (ksA a) (vsA a) (c' - c) c st = some (bI (b F = true) :: st)
theorem rnR_cg {F : Fa} {ks vs ks' vs' : Nat → Nat} : ∀ (m i : Nat) (st : List Int32), (∀ j, i ≤ j → j < i + m → ks' j = ks j ∧ vs' j = vs j) → rnR F ks' vs' m i st = rnR F ks vs m i st
  | 0, _, _, _ => rfl
  | m + 1, i, st, h => by
    rw [rnR, rnR, (h i (by omega) (by omega)).1, (h i (by omega) (by omega)).2]
    cases stR F (ks i) (vs i) st with
    | none => rfl
    | some st' => exact rnR_cg m (i + 1) st' (fun j a b => h j (by omega) (by omega))
theorem ks_cg {a a' : Nat → Int32} {c : Nat} (h : ∀ j, j < 2 * c → a' j = a j) {i : Nat} (hi : i < c) : ksA a' i = ksA a i ∧ vsA a' i = vsA a i := by
  unfold ksA vsA; rw [h _ (by omega), h _ (by omega)]; exact ⟨rfl, rfl⟩
theorem StA.cg {a a' : Nat → Int32} {c : Nat} (h : StA a c) (he : ∀ j, j < 2 * c → a' j = a j) : StA a' c := fun i hi => by
  obtain ⟨k1, k2⟩ := ks_cg he hi
  rw [k1, k2, he _ (by omega), he _ (by omega)]; exact h i hi
theorem StA.up {a : Nat → Int32} {c k : Nat} {v : Int32} (h : StA a c) (hk : k < 23) (hv : (k = 0 ∨ k = 16) → ∃ x, x < 10000 ∧ v = nI x) : StA (upd (upd a (2 * c) (nI k)) (2 * c + 1) v) (c + 1) := fun i hi => by
  by_cases q : i = c
  · subst q
    have e1 : upd (upd a (2 * i) (nI k)) (2 * i + 1) v (2 * i) = nI k := by rw [upd_ap, if_neg (by omega), upd_ap, if_pos rfl]
    have e2 : upd (upd a (2 * i) (nI k)) (2 * i + 1) v (2 * i + 1) = v := by rw [upd_ap, if_pos rfl]
    have ek : ksA (upd (upd a (2 * i) (nI k)) (2 * i + 1) v) i = k := by unfold ksA; rw [e1, nI_clamp (by omega)]
    rw [ek, e1, e2]
    refine ⟨rfl, hk, fun r => ?_⟩
    obtain ⟨x, hx, ex⟩ := hv r
    have ev : vsA (upd (upd a (2 * i) (nI k)) (2 * i + 1) v) i = x := by unfold vsA; rw [e2, ex, nI_clamp (by omega)]
    rw [ev]; exact ⟨ex, hx⟩
  · exact (h.cg (a' := upd (upd a (2 * c) (nI k)) (2 * c + 1) v) (fun j hj => by rw [upd_ap, if_neg (by omega), upd_ap, if_neg (by omega)])) i (by omega)
theorem ks_up {a : Nat → Int32} {c k : Nat} {v : Int32} (hk : k < 23) : ksA (upd (upd a (2 * c) (nI k)) (2 * c + 1) v) c = k ∧ vsA (upd (upd a (2 * c) (nI k)) (2 * c + 1) v) c = v.toNatClampNeg := by
  unfold ksA vsA
  rw [upd_ap, if_neg (by omega), upd_ap, if_pos rfl, upd_ap, if_pos rfl, nI_clamp (by omega)]
  exact ⟨rfl, rfl⟩
section Mos
variable {G : Gam} {d n z len T sl sl0 k c : Nat} {f f0 : Mf} {I W : Nat → Int32} {A : Nat → Nat → Int32} {s : Sc} {tb : Nat → Nat}
theorem PI9.of {q : Nat} (hq : q = sqT tb len k) (hl : len ≤ 400) (h : TkQ tb len q I) : PI9 tb len I k := by
  subst hq
  obtain ⟨h1, h2, h3⟩ := h
  by_cases r : sqT tb len k < len
  · obtain ⟨a1, a2, a3⟩ := h2 r
    have eK : tK tb len k = tkK tb len (sqT tb len k) := if_pos r
    have eV : tV tb len k = tkV tb len (sqT tb len k) := if_pos r
    refine ⟨by rw [eK, eV]; exact a2, h1, by rw [eK, eV]; exact a3, _, (tkE_in r).2, a1, ?_⟩
    show _ = if _ then _ else _
    rw [if_pos r]
  · obtain ⟨a1, a2⟩ := h3 r
    have eK : tK tb len k = 257 := if_neg r
    have eV : tV tb len k = 0 := if_neg r
    refine ⟨by rw [eK, eV]; exact a2, h1, by rw [eK]; intro q; omega, _, sqT_le k, a1, ?_⟩
    show _ = if _ then _ else _
    rw [if_neg r, skp_no (fun q => r q.1)]
/-- to the next token -/
theorem t9_nx (hG : Ok G) (hd1 : 7 ≤ d) (hH : HR tb len T f0 I A) (h : PI9 tb len I k) : Tr G d 154 [.ref 31] n z (mM f0 I W A s) (fun v n' z' f' => v = none ∧ n' = n ∧ z' = z ∧ ∃ I', f' = mM f0 I' W A s ∧ (∀ i, ¬ (11 ≤ i ∧ i ≤ 14) → I' i = I i) ∧ PI9 tb len I' (k + 1) ∧ HR tb len T f0 I' A) := by
  obtain ⟨h1, h2, h3, p, p1, p2, p3⟩ := h
  refine (t9_next0 (d := d) hG hd1 hH.2.2 hH.2.1 p1 p2).post ?_
  rintro v n' z' f' ⟨rfl, rfl, rfl, I', rfl, e1, e2⟩
  exact ⟨rfl, rfl, rfl, I', rfl, e1, PI9.of p3 hH.2.1.1.2 e2, hH.1, hH.2.1.cg (e1 10 (by omega)), hH.2.2⟩
theorem t9_bad (hG : Ok G) (w : Int32) : Tr G d 155 [.ref 31, .int w] n z (mM f0 I W A s) (fun v n' z' f' => v = some (.int 0) ∧ n' = n ∧ z' = z ∧ f' = mM f0 (upd (upd I 15 w) 16 (I 13)) W A s) := by
  refine Tr.of2 (ls0 := [.ref 31, .int w]) hG mo_X9_bad (Nat.le_of_ble_eq_true rfl) rfl ?_
  intro X hi hd hXn hXz hXf hQ
  refine wp_sound (by rw [hi]; exact ok_X9_bad) (hd := []) 400 _ _ _ _ _ _ ?_
  simp only [wp, stp, List.mem_cons, List.not_mem_nil, Nat.reduceEqDiff, or_false, or_self, false_or, or_true, true_or, Nat.reduceAdd, ↓reduceIte, List.getElem?_cons_zero, List.getElem?_cons_succ, nthV, List.set_cons_zero, List.set_cons_succ, noL, popA, catS, Value.category, List.length_cons, List.length_nil, Nat.reduceLT, Nat.reduceLeDiff, true_and, and_true, one0, zer1, imp_t, imp_f, ofN_nI, sdead, f20, f21, not_true_eq_false, upC_ap, upC_upC, retC, fitC, isRefT, Option.toList_some, Option.toList_none, List.cons_append, List.nil_append, Nat.lt_add_one, Nat.zero_lt_succ, Nat.le_refl, Nat.add_zero, Nat.zero_add, Nat.one_ne_zero, Nat.zero_ne_one, Nat.lt_irrefl, List.length_set, fa_X9_bad, hi, hd, hQ, mr_X9_bad, mM_31, mM_32, mM_33, mM_34, mM_35, mM_36, mM_37, mM_38, mM_39, mM_40, mM_41, mM_42, mM_43, mM_44, mM_45, mM_46, mM_47, mM_48, mu_31, mu_32, mu_33, mu_34, mu_35, mu_36, mu_37, mu_38, mu_39, mu_40, mu_41, mu_42, mu_43, mu_44, mu_45, mu_46, mu_47, mu_48, mO_len, mg_0, mg_1, mg_2, mg_3, mg_4, mg_5, mg_6, mg_7, mg_8, mg_9, mg_10, mg_11, mg_12, mg_13, mg_14, mg_15, mg_16, mg_17, mg_18, mg_19, mg_20, mg_21, mg_22, mg_23, mg_24, mg_25, mg_26, mg_27, mg_28, mg_29, mg_30, mg_31, mg_32, mg_33, mg_34, mg_35, ms_2, ms_8, ms_9, ms_10, ms_11, ms_12, ms_13, ms_14, ms_15, ms_16, ms_17, ms_18, ms_19, ms_22, ms_23, ms_32, ms_33, ms_34, ms_35, cN_0, vN_0, cN_1, vN_1, cN_2, vN_2, cN_3, vN_3, cN_4, vN_4, cN_5, vN_5, cN_6, vN_6, cN_7, vN_7, cN_8, vN_8, cN_9, vN_9, cN_190, vN_190]
  rfl
theorem t9_lay (hG : Ok G) {c : Nat} (hc : c < 410) (h9 : I 9 = nI c) (x v : Int32) : Tr G d 157 [.ref 31, .int x, .int v] n z (mM f0 I W A s) (fun r n' z' f' => r = none ∧ n' = n ∧ z' = z ∧ f' = mM f0 (upd I 9 (nI (c + 1))) W (upA A 35 (upd (upd (A 35) (2 * c) x) (2 * c + 1) v)) s) := by
  refine Tr.of2 (ls0 := [.ref 31, .int x, .int v]) hG mo_X9_lay (Nat.le_of_ble_eq_true rfl) rfl ?_
  intro X hi hd hXn hXz hXf hQ
  have hA : ∀ a, upA A 35 a 35 = a := fun a => if_pos rfl
  have hU : ∀ a b, upA (upA A 35 a) 35 b = upA A 35 b := fun a b => by
    funext i; unfold upA; by_cases q : i = 35
    · rw [if_pos q, if_pos q]
    · rw [if_neg q, if_neg q, if_neg q]
  refine wpC_sound (PC_ok hG _) (by rw [hi]; exact ok_X9_lay) (hd := []) 400 _ _ _ _ _ _ ?_
  simp only [wp, stp, List.mem_cons, List.not_mem_nil, Nat.reduceEqDiff, or_false, or_self, false_or, or_true, true_or, Nat.reduceAdd, ↓reduceIte, List.getElem?_cons_zero, List.getElem?_cons_succ, nthV, List.set_cons_zero, List.set_cons_succ, noL, popA, catS, Value.category, List.length_cons, List.length_nil, Nat.reduceLT, Nat.reduceLeDiff, true_and, and_true, one0, zer1, imp_t, imp_f, ofN_nI, sdead, f20, f21, not_true_eq_false, upC_ap, upC_upC, retC, fitC, isRefT, Option.toList_some, Option.toList_none, List.cons_append, List.nil_append, Nat.lt_add_one, Nat.zero_lt_succ, Nat.le_refl, Nat.add_zero, Nat.zero_add, Nat.one_ne_zero, Nat.zero_ne_one, Nat.lt_irrefl, List.length_set, fa_X9_lay, hi, hd, hQ, mr_X9_lay, h9, hA, hU, mM_31, mM_32, mM_33, mM_34, mM_35, mM_36, mM_37, mM_38, mM_39, mM_40, mM_41, mM_42, mM_43, mM_44, mM_45, mM_46, mM_47, mM_48, mu_31, mu_32, mu_33, mu_34, mu_35, mu_36, mu_37, mu_38, mu_39, mu_40, mu_41, mu_42, mu_43, mu_44, mu_45, mu_46, mu_47, mu_48, mO_len, mg_0, mg_1, mg_2, mg_3, mg_4, mg_5, mg_6, mg_7, mg_8, mg_9, mg_10, mg_11, mg_12, mg_13, mg_14, mg_15, mg_16, mg_17, mg_18, mg_19, mg_20, mg_21, mg_22, mg_23, mg_24, mg_25, mg_26, mg_27, mg_28, mg_29, mg_30, mg_31, mg_32, mg_33, mg_34, mg_35, ms_2, ms_8, ms_9, ms_10, ms_11, ms_12, ms_13, ms_14, ms_15, ms_16, ms_17, ms_18, ms_19, ms_22, ms_23, ms_32, ms_33, ms_34, ms_35, cN_0, vN_0, cN_1, vN_1, cN_2, vN_2, cN_3, vN_3, cN_4, vN_4, cN_5, vN_5, cN_6, vN_6, cN_7, vN_7, cN_8, vN_8, cN_9, vN_9, cN_190, vN_190, wpC, stpC, PC, PV, reduceCtorEq]
  try simp only [m1f]
  try simp (disch := omega) only [nmod, nI_leI, nI_ltI, nI_eq, nI_clamp, vin_nI, nI_1, fa_lit, nI_add, nI_rm3, nI_rm2, pk_rem, pk_mul, pk_sub, pk_div, nI_eM, nI_Me, nI_pM, nI_pMz, nI_pM0, M1_lt, M1_le, nI_ltM, nI_leM, i8_nI, true_and, and_true, false_implies, true_implies, not_false_eq_true, not_true_eq_false, ne_eq, implies_true, Nat.not_lt_zero, Nat.zero_le, ite_min, max0, Nat.reduceLT, Nat.reduceLeDiff, Nat.reduceEqDiff, Nat.reduceAdd, Nat.reduceMul, Nat.add_zero, Nat.zero_add, h9, hA, hU]
  try simp only [m1u]
  first | exact ⟨by omega, by omega⟩ | exact ⟨by omega, by omega, rfl⟩
/-- a fault is told -/
theorem RpQ.bad {α : Type} {beh : (Nat → Int32) → Nat → Nat → α → Prop} {I0 : Nat → Int32} {A0 : Nat → Nat → Int32} {c0 why : Nat} (h : PI9 tb len I k) (hI : ∀ i, (i < 9 ∨ i = 10 ∨ i = 17 ∨ 18 < i) → I i = I0 i) (hA : ∀ j, ¬ j = 35 → A j = A0 j) (hA5 : ∀ j, j < 2 * c0 → A 35 j = A0 35 j) {r : Res α} (hr : r = .inl (why, k)) : RpQ beh tb len T sl n z f0 I0 W A0 s c0 r (some (.int 0)) n z (mM f0 (upd (upd I 15 (nI why)) 16 (I 13)) W A s) := by
  subst hr
  refine ⟨rfl, rfl, _, A, rfl, hA, hA5, rfl, fun i hi => ?_, ?_, ?_⟩
  · rw [upd_ap, if_neg (by omega), upd_ap, if_neg (by omega)]; exact hI i hi
  · rw [upd_ap, if_neg (by omega), upd_ap, if_pos rfl]
  · rw [upd_ap, if_pos rfl]; exact h.2.1
theorem tkR_num {K U : Nat} : tkR K U = 2 ↔ K = 258 := by
  unfold tkR
  repeat' split
  all_goals omega
theorem tkR_nam {K U : Nat} (hU : K = 259 → U < 8) : (41 ≤ tkR K U ∧ tkR K U ≤ 48) ↔ K = 259 := by
  unfold tkR
  repeat' split
  all_goals omega
theorem tkR_lt {K U : Nat} (hK : K < 300) (hU : K = 259 → U < 8) : tkR K U < 1000 := by
  unfold tkR
  repeat' split
  all_goals omega
theorem t9_unit (hG : Ok G) (hd1 : 8 ≤ d) (hH : HR tb len T f0 I A) (h : PZ tb len T sl I A k c) : Tr G d 161 [.ref 31] n z (mM f0 I W A s) (RpQ reE tb len T sl n z f0 I W A s c (pUn (tK tb len) (tV tb len) k)) := by
  obtain ⟨h1, h9, ⟨hck, hkT⟩, hSt⟩ := h
  obtain ⟨h12, h13, h14, -⟩ := id h1
  have hT4 := hH.1.1
  obtain ⟨K, hK⟩ : ∃ K, K = tK tb len k := ⟨_, rfl⟩
  obtain ⟨U, hU⟩ : ∃ U, U = tV tb len k := ⟨_, rfl⟩
  rw [← hK, ← hU] at h12 h14
  have tin : K = 257 ∨ (¬ K = 257 ∧ K < 300 ∧ U < 10000 ∧ (K = 259 → U < 8)) ∧ k < T := by
    by_cases q : K = 257
    · exact Or.inl q
    · have hk := hH.1.lt hkT (by rw [← hK]; exact q)
      have := hH.1.2.2 k hk
      rw [← hK, ← hU] at this
      exact Or.inr ⟨this, hk⟩
  have hU8 : K = 259 → U < 8 := fun q => by
    rcases tin with r | r
    · omega
    · exact r.1.2.2.2 q
  have hR9 : tkR K U < 1000 := tkR_lt (by omega) hU8
  obtain ⟨R, hR⟩ : ∃ R, R = tkR K U := ⟨_, rfl⟩
  have hn := tkR_nam (K := K) (U := U) hU8
  have h2 := tkR_num (K := K) (U := U)
  rw [← hR] at h12 hR9 hn h2
  have hb1 : (¬ nI R < 41 ∧ ¬ 48 < nI R) ↔ K = 259 := by
    rw [show (41 : Int32) = nI 41 from rfl, show (48 : Int32) = nI 48 from rfl, nI_ltI (by omega) (by omega), nI_ltI (by omega) (by omega), ← hn]; omega
  have hb2 : nI R = 2 ↔ K = 258 := by rw [show (2 : Int32) = nI 2 from rfl, nI_eq (by omega) (by omega)]; exact h2
  have eP : pUn (tK tb len) (tV tb len) k = if K = 258 then .inr (k + 1, fun _ => nI U) else if K = 259 then .inr (k + 1, fun F => F U) else .inl (1, k) := by unfold pUn; rw [← hK, ← hU]
  refine Tr.of2 (ls0 := [.ref 31, dead]) hG mo_X9_unit (Nat.le_of_ble_eq_true rfl) rfl ?_
  intro X hi hd hXn hXz hXf hQ
  -- the step is laid, the next token is read
  have go : ∀ (x y : Int32) (m : Nat) (e : EV) (u1 : Value), x = nI m → m < 9 → ((m = 0 ∨ m = 16) → ∃ w, w < 10000 ∧ y = nI w) → k < T → pUn (tK tb len) (tV tb len) k = .inr (k + 1, e) → (∀ F st, stR F m y.toNatClampNeg st = some (e F :: st)) → Tr G (d - 1) 157 [.ref 31, .int x, .int y] n z (mM f0 I W A s) (fun r n' z' f' => V G X 53 [.ref 31, u1] (r.toList ++ []) n' z' f') := by
    intro x y m e u1 hx hm hv hkT' hp hbe
    subst hx
    refine (t9_lay hG (by omega) h9 (nI m) y).post ?_
    rintro r n' z' f' ⟨rfl, rfl, rfl, rfl⟩
    have hA35 : upA A 35 (upd (upd (A 35) (2 * c) (nI m)) (2 * c + 1) y) 35 = upd (upd (A 35) (2 * c) (nI m)) (2 * c + 1) y := if_pos rfl
    have hPI : PI9 tb len (upd I 9 (nI (c + 1))) k := by
      obtain ⟨a1, a2, a3, p, p1, p2, p3⟩ := h1
      exact ⟨by rw [upd_ap, if_neg (by omega)]; exact a1, by rw [upd_ap, if_neg (by omega)]; exact a2, fun q => by rw [upd_ap, if_neg (by omega)]; exact a3 q, p, p1, by rw [upd_ap, if_neg (by omega)]; exact p2, p3⟩
    have hH2 : HR tb len T f0 (upd I 9 (nI (c + 1))) (upA A 35 (upd (upd (A 35) (2 * c) (nI m)) (2 * c + 1) y)) := ⟨hH.1, ⟨⟨by rw [upd_ap, if_neg (by omega)]; exact hH.2.1.1.1, hH.2.1.1.2⟩, fun j hj => by rw [show upA A 35 _ 36 = A 36 from if_neg (by decide)]; exact hH.2.1.2 j hj⟩, hH.2.2⟩
    refine wp_sound (by rw [hi]; exact ok_X9_unit) (hd := [11, 29, 53, 57]) 400 _ _ _ _ _ _ ?_
    simp only [wp, stp, List.mem_cons, List.not_mem_nil, Nat.reduceEqDiff, or_false, or_self, false_or, or_true, true_or, Nat.reduceAdd, ↓reduceIte, List.getElem?_cons_zero, List.getElem?_cons_succ, nthV, List.set_cons_zero, List.set_cons_succ, noL, popA, catS, Value.category, List.length_cons, List.length_nil, Nat.reduceLT, Nat.reduceLeDiff, true_and, and_true, one0, zer1, imp_t, imp_f, ofN_nI, sdead, f20, f21, not_true_eq_false, upC_ap, upC_upC, retC, fitC, isRefT, Option.toList_some, Option.toList_none, List.cons_append, List.nil_append, Nat.lt_add_one, Nat.zero_lt_succ, Nat.le_refl, Nat.add_zero, Nat.zero_add, Nat.one_ne_zero, Nat.zero_ne_one, Nat.lt_irrefl, List.length_set, fa_X9_unit, hi, hd, hQ, mr_X9_unit, mM_31, mM_32, mM_33, mM_34, mM_35, mM_36, mM_37, mM_38, mM_39, mM_40, mM_41, mM_42, mM_43, mM_44, mM_45, mM_46, mM_47, mM_48, mu_31, mu_32, mu_33, mu_34, mu_35, mu_36, mu_37, mu_38, mu_39, mu_40, mu_41, mu_42, mu_43, mu_44, mu_45, mu_46, mu_47, mu_48, mO_len, mg_0, mg_1, mg_2, mg_3, mg_4, mg_5, mg_6, mg_7, mg_8, mg_9, mg_10, mg_11, mg_12, mg_13, mg_14, mg_15, mg_16, mg_17, mg_18, mg_19, mg_20, mg_21, mg_22, mg_23, mg_24, mg_25, mg_26, mg_27, mg_28, mg_29, mg_30, mg_31, mg_32, mg_33, mg_34, mg_35, ms_2, ms_8, ms_9, ms_10, ms_11, ms_12, ms_13, ms_14, ms_15, ms_16, ms_17, ms_18, ms_19, ms_22, ms_23, ms_32, ms_33, ms_34, ms_35, cN_0, vN_0, cN_1, vN_1, cN_2, vN_2, cN_3, vN_3, cN_4, vN_4, cN_5, vN_5, cN_6, vN_6, cN_7, vN_7, cN_8, vN_8, cN_9, vN_9, cN_190, vN_190]
    refine ⟨by omega, _, t9_nx hG (by omega) hH2 hPI, ?_⟩
    rintro r n2 z2 f2 ⟨rfl, rfl, rfl, I', rfl, e1, e2, -⟩
    refine wp_sound (by rw [hi]; exact ok_X9_unit) (hd := [11, 29, 53, 57]) 400 _ _ _ _ _ _ ?_
    simp only [wp, stp, List.mem_cons, List.not_mem_nil, Nat.reduceEqDiff, or_false, or_self, false_or, or_true, true_or, Nat.reduceAdd, ↓reduceIte, List.getElem?_cons_zero, List.getElem?_cons_succ, nthV, List.set_cons_zero, List.set_cons_succ, noL, popA, catS, Value.category, List.length_cons, List.length_nil, Nat.reduceLT, Nat.reduceLeDiff, true_and, and_true, one0, zer1, imp_t, imp_f, ofN_nI, sdead, f20, f21, not_true_eq_false, upC_ap, upC_upC, retC, fitC, isRefT, Option.toList_some, Option.toList_none, List.cons_append, List.nil_append, Nat.lt_add_one, Nat.zero_lt_succ, Nat.le_refl, Nat.add_zero, Nat.zero_add, Nat.one_ne_zero, Nat.zero_ne_one, Nat.lt_irrefl, List.length_set, fa_X9_unit, hi, hd, hQ, mr_X9_unit, mM_31, mM_32, mM_33, mM_34, mM_35, mM_36, mM_37, mM_38, mM_39, mM_40, mM_41, mM_42, mM_43, mM_44, mM_45, mM_46, mM_47, mM_48, mu_31, mu_32, mu_33, mu_34, mu_35, mu_36, mu_37, mu_38, mu_39, mu_40, mu_41, mu_42, mu_43, mu_44, mu_45, mu_46, mu_47, mu_48, mO_len, mg_0, mg_1, mg_2, mg_3, mg_4, mg_5, mg_6, mg_7, mg_8, mg_9, mg_10, mg_11, mg_12, mg_13, mg_14, mg_15, mg_16, mg_17, mg_18, mg_19, mg_20, mg_21, mg_22, mg_23, mg_24, mg_25, mg_26, mg_27, mg_28, mg_29, mg_30, mg_31, mg_32, mg_33, mg_34, mg_35, ms_2, ms_8, ms_9, ms_10, ms_11, ms_12, ms_13, ms_14, ms_15, ms_16, ms_17, ms_18, ms_19, ms_22, ms_23, ms_32, ms_33, ms_34, ms_35, cN_0, vN_0, cN_1, vN_1, cN_2, vN_2, cN_3, vN_3, cN_4, vN_4, cN_5, vN_5, cN_6, vN_6, cN_7, vN_7, cN_8, vN_8, cN_9, vN_9, cN_190, vN_190]
    rw [hp]
    refine ⟨rfl, rfl, I', _, rfl, fun j hj => if_neg hj, fun j hj => by rw [hA35, upd_ap, if_neg (by omega), upd_ap, if_neg (by omega)], rfl, fun i hi => by rw [e1 i (by omega), upd_ap, if_neg (by omega)], c + 1, by omega, ⟨e2, by rw [e1 9 (by omega), upd_ap, if_pos rfl], by omega, by rw [hA35]; exact hSt.up (by omega) hv⟩, fun F st => ?_⟩
    rw [hA35, show c + 1 - c = 1 by omega, rnR, (ks_up (by omega)).1, (ks_up (by omega)).2, hbe F st]
    rfl
  by_cases k9 : K = 259
  · obtain ⟨-, hkT'⟩ := tin.resolve_left (by omega)
    have hU9 := hU8 k9
    have hR1 : R = 41 + U := by rw [hR, k9]; rfl
    have q1 := hb1.mpr k9
    have hne : ¬ nI R = 2 := fun q => by have := hb2.mp q; omega
    have hx : nI R - 40 = nI (U + 1) := by rw [hR1, show (40 : Int32) = nI 40 from rfl, pk_sub (by omega)]; congr 1; omega
    refine wpC_sound (PC_ok hG _) (by rw [hi]; exact ok_X9_unit) (hd := [29, 53, 57]) 400 _ _ _ _ _ _ ?_
    simp only [wp, stp, List.mem_cons, List.not_mem_nil, Nat.reduceEqDiff, or_false, or_self, false_or, or_true, true_or, Nat.reduceAdd, ↓reduceIte, List.getElem?_cons_zero, List.getElem?_cons_succ, nthV, List.set_cons_zero, List.set_cons_succ, noL, popA, catS, Value.category, List.length_cons, List.length_nil, Nat.reduceLT, Nat.reduceLeDiff, true_and, and_true, one0, zer1, imp_t, imp_f, ofN_nI, sdead, f20, f21, not_true_eq_false, upC_ap, upC_upC, retC, fitC, isRefT, Option.toList_some, Option.toList_none, List.cons_append, List.nil_append, Nat.lt_add_one, Nat.zero_lt_succ, Nat.le_refl, Nat.add_zero, Nat.zero_add, Nat.one_ne_zero, Nat.zero_ne_one, Nat.lt_irrefl, List.length_set, fa_X9_unit, hi, hd, hQ, mr_X9_unit, h12, hne, bI_t q1, true_implies, mM_31, mM_32, mM_33, mM_34, mM_35, mM_36, mM_37, mM_38, mM_39, mM_40, mM_41, mM_42, mM_43, mM_44, mM_45, mM_46, mM_47, mM_48, mu_31, mu_32, mu_33, mu_34, mu_35, mu_36, mu_37, mu_38, mu_39, mu_40, mu_41, mu_42, mu_43, mu_44, mu_45, mu_46, mu_47, mu_48, mO_len, mg_0, mg_1, mg_2, mg_3, mg_4, mg_5, mg_6, mg_7, mg_8, mg_9, mg_10, mg_11, mg_12, mg_13, mg_14, mg_15, mg_16, mg_17, mg_18, mg_19, mg_20, mg_21, mg_22, mg_23, mg_24, mg_25, mg_26, mg_27, mg_28, mg_29, mg_30, mg_31, mg_32, mg_33, mg_34, mg_35, ms_2, ms_8, ms_9, ms_10, ms_11, ms_12, ms_13, ms_14, ms_15, ms_16, ms_17, ms_18, ms_19, ms_22, ms_23, ms_32, ms_33, ms_34, ms_35, cN_0, vN_0, cN_1, vN_1, cN_2, vN_2, cN_3, vN_3, cN_4, vN_4, cN_5, vN_5, cN_6, vN_6, cN_7, vN_7, cN_8, vN_8, cN_9, vN_9, cN_190, vN_190, wpC, stpC, PC, PV, reduceCtorEq]
    refine ⟨by omega, by omega, _, go _ _ (U + 1) (fun F => F U) _ hx (by omega) (fun q => by omega) hkT' (by rw [eP, if_neg (by omega), if_pos k9]) (fun F st => ?_), fun _ _ _ _ q => q⟩
    unfold stR; rw [if_neg (by omega), if_pos (by omega), show U + 1 - 1 = U by omega]
  · have q1 : ¬ (¬ nI R < 41 ∧ ¬ 48 < nI R) := fun q => k9 (hb1.mp q)
    by_cases k8 : K = 258
    · obtain ⟨hin, hkT'⟩ := tin.resolve_left (by omega)
      have h14 := h14 k8
      have hR1 : nI R = 2 := hb2.mpr k8
      have qq : bI (¬ (2 : Int32) < 41 ∧ ¬ 48 < (2 : Int32)) = 0 := by decide
      refine wpC_sound (PC_ok hG _) (by rw [hi]; exact ok_X9_unit) (hd := [29, 53, 57]) 400 _ _ _ _ _ _ ?_
      simp only [wp, stp, List.mem_cons, List.not_mem_nil, Nat.reduceEqDiff, or_false, or_self, false_or, or_true, true_or, Nat.reduceAdd, ↓reduceIte, List.getElem?_cons_zero, List.getElem?_cons_succ, nthV, List.set_cons_zero, List.set_cons_succ, noL, popA, catS, Value.category, List.length_cons, List.length_nil, Nat.reduceLT, Nat.reduceLeDiff, true_and, and_true, one0, zer1, imp_t, imp_f, ofN_nI, sdead, f20, f21, not_true_eq_false, upC_ap, upC_upC, retC, fitC, isRefT, Option.toList_some, Option.toList_none, List.cons_append, List.nil_append, Nat.lt_add_one, Nat.zero_lt_succ, Nat.le_refl, Nat.add_zero, Nat.zero_add, Nat.one_ne_zero, Nat.zero_ne_one, Nat.lt_irrefl, List.length_set, fa_X9_unit, hi, hd, hQ, mr_X9_unit, h12, hR1, qq, h14, true_implies, mM_31, mM_32, mM_33, mM_34, mM_35, mM_36, mM_37, mM_38, mM_39, mM_40, mM_41, mM_42, mM_43, mM_44, mM_45, mM_46, mM_47, mM_48, mu_31, mu_32, mu_33, mu_34, mu_35, mu_36, mu_37, mu_38, mu_39, mu_40, mu_41, mu_42, mu_43, mu_44, mu_45, mu_46, mu_47, mu_48, mO_len, mg_0, mg_1, mg_2, mg_3, mg_4, mg_5, mg_6, mg_7, mg_8, mg_9, mg_10, mg_11, mg_12, mg_13, mg_14, mg_15, mg_16, mg_17, mg_18, mg_19, mg_20, mg_21, mg_22, mg_23, mg_24, mg_25, mg_26, mg_27, mg_28, mg_29, mg_30, mg_31, mg_32, mg_33, mg_34, mg_35, ms_2, ms_8, ms_9, ms_10, ms_11, ms_12, ms_13, ms_14, ms_15, ms_16, ms_17, ms_18, ms_19, ms_22, ms_23, ms_32, ms_33, ms_34, ms_35, cN_0, vN_0, cN_1, vN_1, cN_2, vN_2, cN_3, vN_3, cN_4, vN_4, cN_5, vN_5, cN_6, vN_6, cN_7, vN_7, cN_8, vN_8, cN_9, vN_9, cN_190, vN_190, wpC, stpC, PC, PV, reduceCtorEq]
      refine ⟨by omega, by omega, _, go _ _ 0 (fun _ => nI U) _ rfl (by omega) (fun _ => ⟨U, hin.2.2.1, rfl⟩) hkT' (by rw [eP, if_pos k8]) (fun F st => ?_), fun _ _ _ _ q => q⟩
      unfold stR; rw [if_pos rfl, nI_clamp (by omega)]
    · have hne : ¬ nI R = 2 := fun q => k8 (hb2.mp q)
      refine wpC_sound (PC_ok hG _) (by rw [hi]; exact ok_X9_unit) (hd := [29, 53, 57]) 400 _ _ _ _ _ _ ?_
      simp only [wp, stp, List.mem_cons, List.not_mem_nil, Nat.reduceEqDiff, or_false, or_self, false_or, or_true, true_or, Nat.reduceAdd, ↓reduceIte, List.getElem?_cons_zero, List.getElem?_cons_succ, nthV, List.set_cons_zero, List.set_cons_succ, noL, popA, catS, Value.category, List.length_cons, List.length_nil, Nat.reduceLT, Nat.reduceLeDiff, true_and, and_true, one0, zer1, imp_t, imp_f, ofN_nI, sdead, f20, f21, not_true_eq_false, upC_ap, upC_upC, retC, fitC, isRefT, Option.toList_some, Option.toList_none, List.cons_append, List.nil_append, Nat.lt_add_one, Nat.zero_lt_succ, Nat.le_refl, Nat.add_zero, Nat.zero_add, Nat.one_ne_zero, Nat.zero_ne_one, Nat.lt_irrefl, List.length_set, fa_X9_unit, hi, hd, hQ, mr_X9_unit, h12, hne, bI_f q1, true_implies, mM_31, mM_32, mM_33, mM_34, mM_35, mM_36, mM_37, mM_38, mM_39, mM_40, mM_41, mM_42, mM_43, mM_44, mM_45, mM_46, mM_47, mM_48, mu_31, mu_32, mu_33, mu_34, mu_35, mu_36, mu_37, mu_38, mu_39, mu_40, mu_41, mu_42, mu_43, mu_44, mu_45, mu_46, mu_47, mu_48, mO_len, mg_0, mg_1, mg_2, mg_3, mg_4, mg_5, mg_6, mg_7, mg_8, mg_9, mg_10, mg_11, mg_12, mg_13, mg_14, mg_15, mg_16, mg_17, mg_18, mg_19, mg_20, mg_21, mg_22, mg_23, mg_24, mg_25, mg_26, mg_27, mg_28, mg_29, mg_30, mg_31, mg_32, mg_33, mg_34, mg_35, ms_2, ms_8, ms_9, ms_10, ms_11, ms_12, ms_13, ms_14, ms_15, ms_16, ms_17, ms_18, ms_19, ms_22, ms_23, ms_32, ms_33, ms_34, ms_35, cN_0, vN_0, cN_1, vN_1, cN_2, vN_2, cN_3, vN_3, cN_4, vN_4, cN_5, vN_5, cN_6, vN_6, cN_7, vN_7, cN_8, vN_8, cN_9, vN_9, cN_190, vN_190, wpC, stpC, PC, PV, reduceCtorEq]
      refine ⟨by omega, by omega, _, t9_bad hG 1, ?_⟩
      rintro r n2 z2 f2 ⟨rfl, rfl, rfl, rfl⟩
      refine wp_sound (by rw [hi]; exact ok_X9_unit) (hd := [11, 29, 53, 57]) 400 _ _ _ _ _ _ ?_
      simp only [wp, stp, List.mem_cons, List.not_mem_nil, Nat.reduceEqDiff, or_false, or_self, false_or, or_true, true_or, Nat.reduceAdd, ↓reduceIte, List.getElem?_cons_zero, List.getElem?_cons_succ, nthV, List.set_cons_zero, List.set_cons_succ, noL, popA, catS, Value.category, List.length_cons, List.length_nil, Nat.reduceLT, Nat.reduceLeDiff, true_and, and_true, one0, zer1, imp_t, imp_f, ofN_nI, sdead, f20, f21, not_true_eq_false, upC_ap, upC_upC, retC, fitC, isRefT, Option.toList_some, Option.toList_none, List.cons_append, List.nil_append, Nat.lt_add_one, Nat.zero_lt_succ, Nat.le_refl, Nat.add_zero, Nat.zero_add, Nat.one_ne_zero, Nat.zero_ne_one, Nat.lt_irrefl, List.length_set, fa_X9_unit, hi, hd, hQ, mr_X9_unit, mM_31, mM_32, mM_33, mM_34, mM_35, mM_36, mM_37, mM_38, mM_39, mM_40, mM_41, mM_42, mM_43, mM_44, mM_45, mM_46, mM_47, mM_48, mu_31, mu_32, mu_33, mu_34, mu_35, mu_36, mu_37, mu_38, mu_39, mu_40, mu_41, mu_42, mu_43, mu_44, mu_45, mu_46, mu_47, mu_48, mO_len, mg_0, mg_1, mg_2, mg_3, mg_4, mg_5, mg_6, mg_7, mg_8, mg_9, mg_10, mg_11, mg_12, mg_13, mg_14, mg_15, mg_16, mg_17, mg_18, mg_19, mg_20, mg_21, mg_22, mg_23, mg_24, mg_25, mg_26, mg_27, mg_28, mg_29, mg_30, mg_31, mg_32, mg_33, mg_34, mg_35, ms_2, ms_8, ms_9, ms_10, ms_11, ms_12, ms_13, ms_14, ms_15, ms_16, ms_17, ms_18, ms_19, ms_22, ms_23, ms_32, ms_33, ms_34, ms_35, cN_0, vN_0, cN_1, vN_1, cN_2, vN_2, cN_3, vN_3, cN_4, vN_4, cN_5, vN_5, cN_6, vN_6, cN_7, vN_7, cN_8, vN_8, cN_9, vN_9, cN_190, vN_190]
      exact RpQ.bad h1 (fun _ _ => rfl) (fun _ _ => rfl) (fun _ _ => rfl) (by rw [eP, if_neg k8, if_neg k9])
/-- a reading goes on where another ended -/
theorem RpQ.more {α β : Type} {beh : (Nat → Int32) → Nat → Nat → α → Prop} {beh2 : (Nat → Int32) → Nat → Nat → β → Prop} {I0 : Nat → Int32} {A0 : Nat → Nat → Int32} {c0 : Nat} {r : Res α} {r0 : Res β} {v : Option Value} {n' z' : Nat} {f' : Mf} (hc : c0 ≤ c) (hI : ∀ i, (i < 9 ∨ i = 10 ∨ i = 17 ∨ 18 < i) → I i = I0 i) (hA : ∀ j, ¬ j = 35 → A j = A0 j) (hA5 : ∀ j, j < 2 * c0 → A 35 j = A0 35 j) (h : RpQ beh tb len T sl0 n z f0 I W A s c r v n' z' f') {e : Nat × Nat} (hr : r = .inl e) (hr0 : r0 = .inl e) : RpQ beh2 tb len T sl n z f0 I0 W A0 s c0 r0 v n' z' f' := by
  subst hr hr0
  obtain ⟨rfl, rfl, I', A', rfl, a1, a2, a3, a4, a5⟩ := h
  exact ⟨rfl, rfl, I', A', rfl, fun j hj => (a1 j hj).trans (hA j hj), fun j hj => (a2 j (by omega)).trans (hA5 j hj), a3, fun i hi => (a4 i hi).trans (hI i hi), a5⟩
theorem HR.cg {I' : Nat → Int32} {A' : Nat → Nat → Int32} (h : HR tb len T f0 I A) (hI : I' 10 = I 10) (hA : A' 36 = A 36) : HR tb len T f0 I' A' := ⟨h.1, ⟨⟨hI.trans h.2.1.1.1, h.2.1.1.2⟩, fun j hj => by rw [hA]; exact h.2.1.2 j hj⟩, h.2.2⟩
/-- a step more behind what was read -/
theorem reE.two {a a' : Nat → Int32} {c0 c1 c2 : Nat} {e1 e2 : EV} (h1 : reE a c0 c1 e1) (h2 : reE a c1 c2 e2) (h01 : c0 ≤ c1) (h12 : c1 ≤ c2) {x : Nat} {y : Int32} (hx : x < 23) (ha : ∀ j, j < 2 * c2 → a' j = a j) (hk : ksA a' c2 = x ∧ vsA a' c2 = y.toNatClampNeg) {e : EV} (he : ∀ F st, stR F x y.toNatClampNeg (e2 F :: e1 F :: st) = some (e F :: st)) : reE a' c0 (c2 + 1) e := fun F st => by
  have g1 : rnR F (ksA a') (vsA a') (c1 - c0) c0 st = some (e1 F :: st) := by rw [rnR_cg _ _ _ (fun j a b => ks_cg ha (by omega))]; exact h1 F st
  have g2 : rnR F (ksA a') (vsA a') (c2 - c1) c1 (e1 F :: st) = some (e2 F :: e1 F :: st) := by rw [rnR_cg _ _ _ (fun j a b => ks_cg ha (by omega))]; exact h2 F _
  rw [show c2 + 1 - c0 = (c1 - c0) + ((c2 - c1) + 1) by omega, rnR_add _ _ _ _ _ g1, show c0 + (c1 - c0) = c1 by omega, rnR_add _ _ _ _ _ g2, show c1 + (c2 - c1) = c2 by omega, rnR, hk.1, hk.2, he F st]
  rfl
theorem reE.one {a a' : Nat → Int32} {c0 c1 : Nat} {e1 : EV} (h1 : reE a c0 c1 e1) (h01 : c0 ≤ c1) {x : Nat} {y : Int32} (ha : ∀ j, j < 2 * c1 → a' j = a j) (hk : ksA a' c1 = x ∧ vsA a' c1 = y.toNatClampNeg) {e : EV} (he : ∀ F st, stR F x y.toNatClampNeg (e1 F :: st) = some (e F :: st)) : reE a' c0 (c1 + 1) e := fun F st => by
  have g1 : rnR F (ksA a') (vsA a') (c1 - c0) c0 st = some (e1 F :: st) := by rw [rnR_cg _ _ _ (fun j a b => ks_cg ha (by omega))]; exact h1 F st
  rw [show c1 + 1 - c0 = (c1 - c0) + 1 by omega, rnR_add _ _ _ _ _ g1, show c0 + (c1 - c0) = c1 by omega, rnR, hk.1, hk.2, he F st]
  rfl
theorem reE.cg {a a' : Nat → Int32} {c0 c1 : Nat} {e1 : EV} (h1 : reE a c0 c1 e1) (ha : ∀ j, j < 2 * c1 → a' j = a j) (h01 : c0 ≤ c1) : reE a' c0 c1 e1 := fun F st => by
  rw [rnR_cg _ _ _ (fun j a b => ks_cg ha (by omega))]; exact h1 F st
end Mos
