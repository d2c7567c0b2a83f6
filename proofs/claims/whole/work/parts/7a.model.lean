-- the reference between calls; what is told of tents, men, the stranger
set_option maxRecDepth 100000
set_option maxHeartbeats 4000000
def RKp (kp : Option (Sta × Lw)) (I : Nat → Int32) (A : Nat → Nat → Int32) : Prop := match kp with
  | none => I 2 = 0
  | some (S, L) => I 2 = 1 ∧ (VS S ∧ MG S) ∧ WR S 1 (-1) (A 33) ∧ WL (A 33) L
def RTp (tb : Nat → Nat) (tl : Nat) (I : Nat → Int32) (A : Nat → Nat → Int32) : Prop := I 10 = nI tl ∧ tl ≤ 400 ∧ ∀ j, j < tl → tb j < 256 ∧ A 36 j = nI (tb j)
/-- the reference between calls -/
def RM (S : Sta) (L : Lw) (tb : Nat → Nat) (tl : Nat) (fk fp : Int32) (kp : Option (Sta × Lw)) (I W : Nat → Int32) (A : Nat → Nat → Int32) (s : Sc) : Prop := HV S L I W s ∧ RTp tb tl I A ∧ (I 17 = fk ∧ I 19 = fp) ∧ RKp kp I A
/-- how a call of the reference ends -/
def RX (S : Sta) (L : Lw) (tb : Nat → Nat) (tl : Nat) (fk fp : Int32) (kp : Option (Sta × Lw)) (n z : Nat) (f0 : Mf) (ans : Int32) : Po := fun v n' z' f' => v = some (.int ans) ∧ n' = n ∧ z' = z ∧ ∃ I W A s, f' = mM f0 I W A s ∧ RM S L tb tl fk fp kp I W A s
section Mas
variable {G : Gam} {d n z tl : Nat} {f f0 : Mf} {I W : Nat → Int32} {A : Nat → Nat → Int32} {s : Sc} {S S' : Sta} {bs gn : Int32} {L : Lw} {tb : Nat → Nat} {fk fp : Int32} {kp : Option (Sta × Lw)}
theorem RX.i {a b : Int32} (h : a = b) (hM : RM S L tb tl fk fp kp I W A s) : RX S L tb tl fk fp kp n z f0 b (some (.int a)) n z (mM f0 I W A s) := ⟨by rw [h], rfl, rfl, I, W, A, s, rfl, hM⟩
theorem RX.yes {p : Prop} [Decidable p] {S1 : Sta} (hp : p) {W' : Nat → Int32} (hM : RM S1 L tb tl fk fp kp I W' A s) : RX (if p then S1 else S) L tb tl fk fp kp n z f0 (bI p) (some (.int 1)) n z (mM f0 I W' A s) := by
  rw [if_pos hp, bI_t hp]; exact RX.i rfl hM
theorem RX.no {p : Prop} [Decidable p] {S1 : Sta} (hp : ¬ p) (hM : RM S L tb tl fk fp kp I W A s) : RX (if p then S1 else S) L tb tl fk fp kp n z f0 (bI p) (some (.int 0)) n z (mM f0 I W A s) := by
  rw [if_neg hp, bI_f hp]; exact RX.i rfl hM
theorem RM.hv {S' : Sta} {L' : Lw} {W' : Nat → Int32} {s' : Sc} (h : RM S L tb tl fk fp kp I W A s) (hv : HV S' L' I W' s') : RM S' L' tb tl fk fp kp I W' A s' := ⟨hv, h.2⟩
theorem RM.rd {s' : Sc} (h : RM S L tb tl fk fp kp I W A s) (hs : WyM S 1 s') : RM S L tb tl fk fp kp I W A s' := h.hv ⟨h.1.1, h.1.2.1, h.1.2.2.1, hs, h.1.2.2.2.2⟩
/-- a reading is a call that changes nothing -/
theorem Rr.rx {ans : Int32} (h : RM S L tb tl fk fp kp I W A s) {v : Option Value} {n' z' : Nat} {f' : Mf} (hr : Rr ans n z f0 I W A S 1 v n' z' f') : RX S L tb tl fk fp kp n z f0 ans v n' z' f' := by
  obtain ⟨r1, r2, r3, s', r4, r5⟩ := hr
  exact ⟨r1, r2, r3, I, W, A, s', r4, h.rd r5⟩
theorem HV.cg {W' : Nat → Int32} (h : HV S L I W s) (hV : VS S' ∧ MG S') (hW : WR S' 1 (-1) W') (hw : ∀ i, 190 ≤ i → W' i = W i) (hop : opS S' 1 = opS S 1) : HV S' L I W' s := ⟨hV, hW, h.2.2.1.cong hw, h.2.2.2.1.cg hop, h.2.2.2.2⟩
theorem MG.cg (h : MG S) (h0 : S' 0 4 = S 0 4) (h8 : S' 8 = S 8) : MG S' := fun m hm => by
  have : mn S' = mn S := by unfold mn; rw [h0]
  rw [h8]; exact h m (by omega)
theorem WR.up0 (h : WR S bs gn W) {i : Nat} (hi : i < 10) (h3 : ¬ i = 3) (h4 : ¬ i = 4) (v : Int32) : WR (upS S 0 i v) bs gn (upd W i v) := by
  obtain ⟨⟨r1, r2⟩, r3, r4, r5⟩ := h
  have et : tn (upS S 0 i v) = tn S := by unfold tn; rw [upS_0 (fun q => h3 q.symm)]
  have em : mn (upS S 0 i v) = mn S := by unfold mn; rw [upS_0 (fun q => h4 q.symm)]
  refine ⟨⟨fun j hj => ?_, fun c hc => ?_⟩, fun o ho => ?_, fun j o hj hj6 ho => ?_, fun m hm => ?_⟩
  · rw [upd_ap]
    by_cases q : j = i
    · rw [if_pos q, q, upS_self]
    · rw [if_neg q, upS_0 q]; exact r1 j hj
  · rw [upd_ap, if_neg (by omega), r2 c hc]; unfold kB; rw [upS_row (by omega)]
  · rw [et] at ho; rw [upd_ap, if_neg (by omega), upS_row (by omega)]; exact r3 o ho
  · rw [et] at ho; rw [upd_ap, if_neg (by omega), upS_row (by omega)]; exact r4 j o hj hj6 ho
  · rw [em] at hm; rw [upd_ap, if_neg (by omega), upS_row (by omega)]; exact r5 m hm
theorem WR.upT (h : WR S bs gn W) (hB : Bd S) {j t : Nat} (hj : 1 ≤ j ∧ j < 6) (ht : t < tn S) (v : Int32) : WR (upS S (2 + j) t v) bs gn (upd W (120 + 6 * t + j) v) := by
  obtain ⟨⟨r1, r2⟩, r3, r4, r5⟩ := h
  have h10 := hB.1.2
  have hm6 := hB.2.1.2
  have et : tn (upS S (2 + j) t v) = tn S := by unfold tn; rw [upS_row (by omega)]
  have em : mn (upS S (2 + j) t v) = mn S := by unfold mn; rw [upS_row (by omega)]
  refine ⟨⟨fun i hi => ?_, fun c hc => ?_⟩, fun o ho => ?_, fun j' o hj' hj6 ho => ?_, fun m hm => ?_⟩
  · rw [upd_ap, if_neg (by omega), upS_row (by omega)]; exact r1 i hi
  · rw [upd_ap, if_neg (by omega), r2 c hc]; unfold kB; rw [upS_row (by omega)]
  · rw [et] at ho; rw [upd_ap, if_neg (by omega), upS_row (by omega)]; exact r3 o ho
  · rw [et] at ho
    rw [upd_ap]
    by_cases q : o = t ∧ j' = j
    · rw [if_pos (by rw [q.1, q.2]), q.1, q.2, upS_self]
    · rw [if_neg (by omega), upS_ne (by omega)]; exact r4 j' o hj' hj6 ho
  · rw [em] at hm; rw [upd_ap, if_neg (by omega), upS_row (by omega)]; exact r5 m hm
theorem t9_state (hG : Ok G) (h : RM S L tb tl fk fp kp I W A s) (v : Int32) : Tr G d 133 [.ref 31, .int v] n z (mM f0 I W A s) (RX (upS S 0 2 v) L tb tl fk fp kp n z f0 (S 0 2)) := by
  obtain ⟨w0, w1, w2, -⟩ := h.1.2.1.ten
  refine Tr.of2 (ls0 := [.ref 31, .int v, dead]) hG mo_X9_state (Nat.le_of_ble_eq_true rfl) rfl ?_
  intro X hi hd hXn hXz hXf hQ
  refine wpC_sound (PC_ok hG _) (by rw [hi]; exact ok_X9_state) (hd := []) 400 _ _ _ _ _ _ ?_
  simp only [wp, stp, List.mem_cons, List.not_mem_nil, Nat.reduceEqDiff, or_false, or_self, false_or, or_true, true_or, Nat.reduceAdd, ↓reduceIte, List.getElem?_cons_zero, List.getElem?_cons_succ, nthV, List.set_cons_zero, List.set_cons_succ, noL, popA, catS, Value.category, List.length_cons, List.length_nil, Nat.reduceLT, Nat.reduceLeDiff, true_and, and_true, one0, zer1, imp_t, imp_f, ofN_nI, sdead, f20, f21, not_true_eq_false, upC_ap, upC_upC, retC, fitC, isRefT, Option.toList_some, Option.toList_none, List.cons_append, List.nil_append, Nat.lt_add_one, Nat.zero_lt_succ, Nat.le_refl, Nat.add_zero, Nat.zero_add, Nat.one_ne_zero, Nat.zero_ne_one, Nat.lt_irrefl, List.length_set, fa_X9_state, hi, hd, hQ, mr_X9_state, w2, mM_31, mM_32, mM_33, mM_34, mM_35, mM_36, mM_37, mM_38, mM_39, mM_40, mM_41, mM_42, mM_43, mM_44, mM_45, mM_46, mM_47, mM_48, mu_31, mu_32, mu_33, mu_34, mu_35, mu_36, mu_37, mu_38, mu_39, mu_40, mu_41, mu_42, mu_43, mu_44, mu_45, mu_46, mu_47, mu_48, mO_len, mg_0, mg_1, mg_2, mg_3, mg_4, mg_5, mg_6, mg_7, mg_8, mg_9, mg_10, mg_11, mg_12, mg_13, mg_14, mg_15, mg_16, mg_17, mg_18, mg_19, mg_20, mg_21, mg_22, mg_23, mg_24, mg_25, mg_26, mg_27, mg_28, mg_29, mg_30, mg_31, mg_32, mg_33, mg_34, mg_35, ms_2, ms_8, ms_9, ms_10, ms_11, ms_12, ms_13, ms_14, ms_15, ms_16, ms_17, ms_18, ms_19, ms_22, ms_23, ms_32, ms_33, ms_34, ms_35, cN_0, vN_0, cN_1, vN_1, cN_2, vN_2, cN_3, vN_3, cN_4, vN_4, cN_5, vN_5, cN_6, vN_6, cN_7, vN_7, cN_8, vN_8, cN_9, vN_9, cN_190, vN_190, wpC, stpC, PC, PV, reduceCtorEq]
  exact RX.i rfl (h.hv (h.1.dr v h.1.2.2.2.1))
theorem t9_fault (hG : Ok G) (h : RM S L tb tl fk fp kp I W A s) (w : Int32) : Tr G d 167 [.ref 31, .int w] n z (mM f0 I W A s) (RX S L tb tl fk fp kp n z f0 (if w.toInt = 0 then fk else if w.toInt = 1 then fp else -1)) := by
  have e0 : w = 0 ↔ w.toInt = 0 := by rw [← Int32.toInt_inj]; rfl
  have e1 : w = 1 ↔ w.toInt = 1 := by rw [← Int32.toInt_inj]; rfl
  obtain ⟨h17, h19⟩ := h.2.2.1
  refine Tr.of2 (ls0 := [.ref 31, .int w]) hG mo_X9_fault (Nat.le_of_ble_eq_true rfl) rfl ?_
  intro X hi hd hXn hXz hXf hQ
  refine wpC_sound (PC_ok hG _) (by rw [hi]; exact ok_X9_fault) (hd := []) 400 _ _ _ _ _ _ ?_
  simp only [wp, stp, List.mem_cons, List.not_mem_nil, Nat.reduceEqDiff, or_false, or_self, false_or, or_true, true_or, Nat.reduceAdd, ↓reduceIte, List.getElem?_cons_zero, List.getElem?_cons_succ, nthV, List.set_cons_zero, List.set_cons_succ, noL, popA, catS, Value.category, List.length_cons, List.length_nil, Nat.reduceLT, Nat.reduceLeDiff, true_and, and_true, one0, zer1, imp_t, imp_f, ofN_nI, sdead, f20, f21, not_true_eq_false, upC_ap, upC_upC, retC, fitC, isRefT, Option.toList_some, Option.toList_none, List.cons_append, List.nil_append, Nat.lt_add_one, Nat.zero_lt_succ, Nat.le_refl, Nat.add_zero, Nat.zero_add, Nat.one_ne_zero, Nat.zero_ne_one, Nat.lt_irrefl, List.length_set, fa_X9_fault, hi, hd, hQ, mr_X9_fault, h17, h19, mM_31, mM_32, mM_33, mM_34, mM_35, mM_36, mM_37, mM_38, mM_39, mM_40, mM_41, mM_42, mM_43, mM_44, mM_45, mM_46, mM_47, mM_48, mu_31, mu_32, mu_33, mu_34, mu_35, mu_36, mu_37, mu_38, mu_39, mu_40, mu_41, mu_42, mu_43, mu_44, mu_45, mu_46, mu_47, mu_48, mO_len, mg_0, mg_1, mg_2, mg_3, mg_4, mg_5, mg_6, mg_7, mg_8, mg_9, mg_10, mg_11, mg_12, mg_13, mg_14, mg_15, mg_16, mg_17, mg_18, mg_19, mg_20, mg_21, mg_22, mg_23, mg_24, mg_25, mg_26, mg_27, mg_28, mg_29, mg_30, mg_31, mg_32, mg_33, mg_34, mg_35, ms_2, ms_8, ms_9, ms_10, ms_11, ms_12, ms_13, ms_14, ms_15, ms_16, ms_17, ms_18, ms_19, ms_22, ms_23, ms_32, ms_33, ms_34, ms_35, cN_0, vN_0, cN_1, vN_1, cN_2, vN_2, cN_3, vN_3, cN_4, vN_4, cN_5, vN_5, cN_6, vN_6, cN_7, vN_7, cN_8, vN_8, cN_9, vN_9, cN_190, vN_190, wpC, stpC, PC, PV, reduceCtorEq]
  refine ⟨fun q => ⟨fun q1 => RX.i ?_ h, fun q1 => RX.i ?_ h⟩, fun q => RX.i ?_ h⟩
  · rw [if_neg (fun r => q (e0.mpr r)), if_neg (fun r => q1 (e1.mpr r))]
  · rw [if_neg (fun r => q (e0.mpr r)), if_pos (e1.mp q1)]
  · rw [if_pos (e0.mp q)]
theorem t9_end (hG : Ok G) (hd1 : 1 ≤ d) (h : RM S L tb tl fk fp kp I W A s) (v : Int32) : Tr G d 147 [.ref 31, .int v] n z (mM f0 I W A s) (RX S L tb (if ¬ v < 0 ∧ v ≤ nI tl then v.toNatClampNeg else tl) fk fp kp n z f0 (bI (¬ v < 0 ∧ v ≤ nI tl))) := by
  obtain ⟨h10, hl, hT⟩ := h.2.1
  refine Tr.of2 (ls0 := [.ref 31, .int v]) hG mo_X9_end (Nat.le_of_ble_eq_true rfl) rfl ?_
  intro X hi hd hXn hXz hXf hQ
  refine wpC_sound (PC_ok hG _) (by rw [hi]; exact ok_X9_end) (hd := []) 400 _ _ _ _ _ _ ?_
  simp only [wp, stp, List.mem_cons, List.not_mem_nil, Nat.reduceEqDiff, or_false, or_self, false_or, or_true, true_or, Nat.reduceAdd, ↓reduceIte, List.getElem?_cons_zero, List.getElem?_cons_succ, nthV, List.set_cons_zero, List.set_cons_succ, noL, popA, catS, Value.category, List.length_cons, List.length_nil, Nat.reduceLT, Nat.reduceLeDiff, true_and, and_true, one0, zer1, imp_t, imp_f, ofN_nI, sdead, f20, f21, not_true_eq_false, upC_ap, upC_upC, retC, fitC, isRefT, Option.toList_some, Option.toList_none, List.cons_append, List.nil_append, Nat.lt_add_one, Nat.zero_lt_succ, Nat.le_refl, Nat.add_zero, Nat.zero_add, Nat.one_ne_zero, Nat.zero_ne_one, Nat.lt_irrefl, List.length_set, fa_X9_end, hi, hd, hQ, mr_X9_end, h10, bI_0, mM_31, mM_32, mM_33, mM_34, mM_35, mM_36, mM_37, mM_38, mM_39, mM_40, mM_41, mM_42, mM_43, mM_44, mM_45, mM_46, mM_47, mM_48, mu_31, mu_32, mu_33, mu_34, mu_35, mu_36, mu_37, mu_38, mu_39, mu_40, mu_41, mu_42, mu_43, mu_44, mu_45, mu_46, mu_47, mu_48, mO_len, mg_0, mg_1, mg_2, mg_3, mg_4, mg_5, mg_6, mg_7, mg_8, mg_9, mg_10, mg_11, mg_12, mg_13, mg_14, mg_15, mg_16, mg_17, mg_18, mg_19, mg_20, mg_21, mg_22, mg_23, mg_24, mg_25, mg_26, mg_27, mg_28, mg_29, mg_30, mg_31, mg_32, mg_33, mg_34, mg_35, ms_2, ms_8, ms_9, ms_10, ms_11, ms_12, ms_13, ms_14, ms_15, ms_16, ms_17, ms_18, ms_19, ms_22, ms_23, ms_32, ms_33, ms_34, ms_35, cN_0, vN_0, cN_1, vN_1, cN_2, vN_2, cN_3, vN_3, cN_4, vN_4, cN_5, vN_5, cN_6, vN_6, cN_7, vN_7, cN_8, vN_8, cN_9, vN_9, cN_190, vN_190, wpC, stpC, PC, PV, reduceCtorEq]
  refine ⟨hd1, fun q => ?_, fun q => ?_⟩
  · have q' : ¬ v < 0 ∧ v ≤ nI tl := ⟨(Decidable.not_not.mp q).1, Int32.not_lt.mp (Decidable.not_not.mp q).2⟩
    rw [if_pos q', bI_t q']
    obtain ⟨j, hj, rfl⟩ := nI_of2 (M := nI tl) (n := tl) (nI_toInt (by omega)) q'.1 q'.2
    rw [nI_clamp (by omega)]
    exact RX.i rfl ⟨⟨h.1.1, h.1.2.1, h.1.2.2.1, h.1.2.2.2.1, h.1.2.2.2.2⟩, ⟨rfl, by omega, fun i hi => hT i (by omega)⟩, h.2.2.1, by
      have := h.2.2.2
      unfold RKp at this ⊢
      split <;> exact this⟩
  · have q' : ¬ (¬ v < 0 ∧ v ≤ nI tl) := fun r => q ⟨r.1, Int32.not_lt.mpr r.2⟩
    rw [if_neg q', bI_f q']
    exact RX.i rfl h
theorem t9_stranger (hG : Ok G) (hd1 : 4 ≤ d) (h : RM S L tb tl fk fp kp I W A s) (hk : Vk S) (y : Int32) : Tr G d 143 [.ref 31, .int y] n z (mM f0 I W A s) (RX (if y = -1 ∨ grS S y then upS S 0 5 y else S) L tb tl fk fp kp n z f0 (bI (y = -1 ∨ grS S y))) := by
  have go : (y = -1 ∨ grS S y) → RM (upS S 0 5 y) L tb tl fk fp kp I (upd W 5 y) A s := fun hy => h.hv (h.1.cg ⟨(hk.str hy).1, h.1.1.2.cg (upS_0 (by omega)) (upS_row (by omega))⟩ (h.1.2.1.up0 (by omega) (by omega) (by omega) y) (fun i hi => by rw [upd_ap, if_neg (by omega)]) (opS_cg (upS_0 (by omega)) (upS_0 (by omega)) (upS_row (by omega)) 1))
  refine Tr.of2 (ls0 := [.ref 31, .int y]) hG mo_X9_stranger (Nat.le_of_ble_eq_true rfl) rfl ?_
  intro X hi hd hXn hXz hXf hQ
  refine wpC_sound (PC_ok hG _) (by rw [hi]; exact ok_X9_stranger) (hd := [10]) 400 _ _ _ _ _ _ ?_
  simp only [wp, stp, List.mem_cons, List.not_mem_nil, Nat.reduceEqDiff, or_false, or_self, false_or, or_true, true_or, Nat.reduceAdd, ↓reduceIte, List.getElem?_cons_zero, List.getElem?_cons_succ, nthV, List.set_cons_zero, List.set_cons_succ, noL, popA, catS, Value.category, List.length_cons, List.length_nil, Nat.reduceLT, Nat.reduceLeDiff, true_and, and_true, one0, zer1, imp_t, imp_f, ofN_nI, sdead, f20, f21, not_true_eq_false, upC_ap, upC_upC, retC, fitC, isRefT, Option.toList_some, Option.toList_none, List.cons_append, List.nil_append, Nat.lt_add_one, Nat.zero_lt_succ, Nat.le_refl, Nat.add_zero, Nat.zero_add, Nat.one_ne_zero, Nat.zero_ne_one, Nat.lt_irrefl, List.length_set, fa_X9_stranger, hi, hd, hQ, mr_X9_stranger, mM_31, mM_32, mM_33, mM_34, mM_35, mM_36, mM_37, mM_38, mM_39, mM_40, mM_41, mM_42, mM_43, mM_44, mM_45, mM_46, mM_47, mM_48, mu_31, mu_32, mu_33, mu_34, mu_35, mu_36, mu_37, mu_38, mu_39, mu_40, mu_41, mu_42, mu_43, mu_44, mu_45, mu_46, mu_47, mu_48, mO_len, mg_0, mg_1, mg_2, mg_3, mg_4, mg_5, mg_6, mg_7, mg_8, mg_9, mg_10, mg_11, mg_12, mg_13, mg_14, mg_15, mg_16, mg_17, mg_18, mg_19, mg_20, mg_21, mg_22, mg_23, mg_24, mg_25, mg_26, mg_27, mg_28, mg_29, mg_30, mg_31, mg_32, mg_33, mg_34, mg_35, ms_2, ms_8, ms_9, ms_10, ms_11, ms_12, ms_13, ms_14, ms_15, ms_16, ms_17, ms_18, ms_19, ms_22, ms_23, ms_32, ms_33, ms_34, ms_35, cN_0, vN_0, cN_1, vN_1, cN_2, vN_2, cN_3, vN_3, cN_4, vN_4, cN_5, vN_5, cN_6, vN_6, cN_7, vN_7, cN_8, vN_8, cN_9, vN_9, cN_190, vN_190, wpC, stpC, PC, PV, reduceCtorEq]
  refine ⟨fun q => RX.yes (Or.inl q) (go (Or.inl q)), fun q => ⟨by omega, _, t9_isGrass hG (by omega) h.1.1.1.1.1 h.1.2.1 y, ?_⟩⟩
  rintro w n2 z2 f2 ⟨rfl, rfl, rfl, rfl⟩
  refine wpC_sound (PC_ok hG _) (by rw [hi]; exact ok_X9_stranger) (hd := [10]) 400 _ _ _ _ _ _ ?_
  simp only [wp, stp, List.mem_cons, List.not_mem_nil, Nat.reduceEqDiff, or_false, or_self, false_or, or_true, true_or, Nat.reduceAdd, ↓reduceIte, List.getElem?_cons_zero, List.getElem?_cons_succ, nthV, List.set_cons_zero, List.set_cons_succ, noL, popA, catS, Value.category, List.length_cons, List.length_nil, Nat.reduceLT, Nat.reduceLeDiff, true_and, and_true, one0, zer1, imp_t, imp_f, ofN_nI, sdead, f20, f21, not_true_eq_false, upC_ap, upC_upC, retC, fitC, isRefT, Option.toList_some, Option.toList_none, List.cons_append, List.nil_append, Nat.lt_add_one, Nat.zero_lt_succ, Nat.le_refl, Nat.add_zero, Nat.zero_add, Nat.one_ne_zero, Nat.zero_ne_one, Nat.lt_irrefl, List.length_set, fa_X9_stranger, hi, hd, hQ, mr_X9_stranger, bI_0, mM_31, mM_32, mM_33, mM_34, mM_35, mM_36, mM_37, mM_38, mM_39, mM_40, mM_41, mM_42, mM_43, mM_44, mM_45, mM_46, mM_47, mM_48, mu_31, mu_32, mu_33, mu_34, mu_35, mu_36, mu_37, mu_38, mu_39, mu_40, mu_41, mu_42, mu_43, mu_44, mu_45, mu_46, mu_47, mu_48, mO_len, mg_0, mg_1, mg_2, mg_3, mg_4, mg_5, mg_6, mg_7, mg_8, mg_9, mg_10, mg_11, mg_12, mg_13, mg_14, mg_15, mg_16, mg_17, mg_18, mg_19, mg_20, mg_21, mg_22, mg_23, mg_24, mg_25, mg_26, mg_27, mg_28, mg_29, mg_30, mg_31, mg_32, mg_33, mg_34, mg_35, ms_2, ms_8, ms_9, ms_10, ms_11, ms_12, ms_13, ms_14, ms_15, ms_16, ms_17, ms_18, ms_19, ms_22, ms_23, ms_32, ms_33, ms_34, ms_35, cN_0, vN_0, cN_1, vN_1, cN_2, vN_2, cN_3, vN_3, cN_4, vN_4, cN_5, vN_5, cN_6, vN_6, cN_7, vN_7, cN_8, vN_8, cN_9, vN_9, cN_190, vN_190, wpC, stpC, PC, PV, reduceCtorEq]
  exact ⟨fun q2 => RX.yes (Or.inr (Decidable.not_not.mp q2)) (go (Or.inr (Decidable.not_not.mp q2))), fun q2 => RX.no (fun q3 => q3.elim q q2) h⟩
theorem t9_told (hG : Ok G) (hd1 : 2 ≤ d) (h : RM S L tb tl fk fp kp I W A s) (t v : Int32) : Tr G d 207 [.ref 31, .int t, .int v] n z (mM f0 I W A s) (RX (if tS S t ∧ ¬ v < -1 ∧ v ≤ 9999 then upS S 7 t.toNatClampNeg v else S) L tb tl fk fp kp n z f0 (bI (tS S t ∧ ¬ v < -1 ∧ v ≤ 9999))) := by
  have hB := h.1.1.1.1.1
  refine Tr.of2 (ls0 := [.ref 31, .int t, .int v]) hG mo_X9_told (Nat.le_of_ble_eq_true rfl) rfl ?_
  intro X hi hd hXn hXz hXf hQ
  refine wpC_sound (PC_ok hG _) (by rw [hi]; exact ok_X9_told) (hd := [5]) 400 _ _ _ _ _ _ ?_
  simp only [wp, stp, List.mem_cons, List.not_mem_nil, Nat.reduceEqDiff, or_false, or_self, false_or, or_true, true_or, Nat.reduceAdd, ↓reduceIte, List.getElem?_cons_zero, List.getElem?_cons_succ, nthV, List.set_cons_zero, List.set_cons_succ, noL, popA, catS, Value.category, List.length_cons, List.length_nil, Nat.reduceLT, Nat.reduceLeDiff, true_and, and_true, one0, zer1, imp_t, imp_f, ofN_nI, sdead, f20, f21, not_true_eq_false, upC_ap, upC_upC, retC, fitC, isRefT, Option.toList_some, Option.toList_none, List.cons_append, List.nil_append, Nat.lt_add_one, Nat.zero_lt_succ, Nat.le_refl, Nat.add_zero, Nat.zero_add, Nat.one_ne_zero, Nat.zero_ne_one, Nat.lt_irrefl, List.length_set, fa_X9_told, hi, hd, hQ, mr_X9_told, mM_31, mM_32, mM_33, mM_34, mM_35, mM_36, mM_37, mM_38, mM_39, mM_40, mM_41, mM_42, mM_43, mM_44, mM_45, mM_46, mM_47, mM_48, mu_31, mu_32, mu_33, mu_34, mu_35, mu_36, mu_37, mu_38, mu_39, mu_40, mu_41, mu_42, mu_43, mu_44, mu_45, mu_46, mu_47, mu_48, mO_len, mg_0, mg_1, mg_2, mg_3, mg_4, mg_5, mg_6, mg_7, mg_8, mg_9, mg_10, mg_11, mg_12, mg_13, mg_14, mg_15, mg_16, mg_17, mg_18, mg_19, mg_20, mg_21, mg_22, mg_23, mg_24, mg_25, mg_26, mg_27, mg_28, mg_29, mg_30, mg_31, mg_32, mg_33, mg_34, mg_35, ms_2, ms_8, ms_9, ms_10, ms_11, ms_12, ms_13, ms_14, ms_15, ms_16, ms_17, ms_18, ms_19, ms_22, ms_23, ms_32, ms_33, ms_34, ms_35, cN_0, vN_0, cN_1, vN_1, cN_2, vN_2, cN_3, vN_3, cN_4, vN_4, cN_5, vN_5, cN_6, vN_6, cN_7, vN_7, cN_8, vN_8, cN_9, vN_9, cN_190, vN_190, wpC, stpC, PC, PV, reduceCtorEq]
  refine ⟨by omega, _, t9_isTent hG (by omega) hB h.1.2.1 t, ?_⟩
  rintro w n2 z2 f2 ⟨rfl, rfl, rfl, rfl⟩
  by_cases q : tS S t
  · obtain ⟨k, hk, rfl⟩ := tS_nI hB q
    have hk10 := hB.1.2
    have hkk : (nI k).toNatClampNeg = k := nI_clamp (by omega)
    have hin : vp_in (120 + 6 * nI k + 5) 1075 := by
      rw [show (120 : Int32) = nI 120 from rfl, show (6 : Int32) = nI 6 from rfl, show (5 : Int32) = nI 5 from rfl, pk_mul, nI_add, nI_add, vin_nI (by omega)]; omega
    have hcl : (120 + 6 * nI k + 5).toNatClampNeg = 120 + 6 * k + 5 := by
      rw [show (120 : Int32) = nI 120 from rfl, show (6 : Int32) = nI 6 from rfl, show (5 : Int32) = nI 5 from rfl, pk_mul, nI_add, nI_add, nI_clamp (by omega)]
    rw [bI_t q]
    refine wpC_sound (PC_ok hG _) (by rw [hi]; exact ok_X9_told) (hd := [5]) 400 _ _ _ _ _ _ ?_
    simp only [wp, stp, List.mem_cons, List.not_mem_nil, Nat.reduceEqDiff, or_false, or_self, false_or, or_true, true_or, Nat.reduceAdd, ↓reduceIte, List.getElem?_cons_zero, List.getElem?_cons_succ, nthV, List.set_cons_zero, List.set_cons_succ, noL, popA, catS, Value.category, List.length_cons, List.length_nil, Nat.reduceLT, Nat.reduceLeDiff, true_and, and_true, one0, zer1, imp_t, imp_f, ofN_nI, sdead, f20, f21, not_true_eq_false, upC_ap, upC_upC, retC, fitC, isRefT, Option.toList_some, Option.toList_none, List.cons_append, List.nil_append, Nat.lt_add_one, Nat.zero_lt_succ, Nat.le_refl, Nat.add_zero, Nat.zero_add, Nat.one_ne_zero, Nat.zero_ne_one, Nat.lt_irrefl, List.length_set, fa_X9_told, hi, hd, hQ, mr_X9_told, bI_0, hcl, mM_31, mM_32, mM_33, mM_34, mM_35, mM_36, mM_37, mM_38, mM_39, mM_40, mM_41, mM_42, mM_43, mM_44, mM_45, mM_46, mM_47, mM_48, mu_31, mu_32, mu_33, mu_34, mu_35, mu_36, mu_37, mu_38, mu_39, mu_40, mu_41, mu_42, mu_43, mu_44, mu_45, mu_46, mu_47, mu_48, mO_len, mg_0, mg_1, mg_2, mg_3, mg_4, mg_5, mg_6, mg_7, mg_8, mg_9, mg_10, mg_11, mg_12, mg_13, mg_14, mg_15, mg_16, mg_17, mg_18, mg_19, mg_20, mg_21, mg_22, mg_23, mg_24, mg_25, mg_26, mg_27, mg_28, mg_29, mg_30, mg_31, mg_32, mg_33, mg_34, mg_35, ms_2, ms_8, ms_9, ms_10, ms_11, ms_12, ms_13, ms_14, ms_15, ms_16, ms_17, ms_18, ms_19, ms_22, ms_23, ms_32, ms_33, ms_34, ms_35, cN_0, vN_0, cN_1, vN_1, cN_2, vN_2, cN_3, vN_3, cN_4, vN_4, cN_5, vN_5, cN_6, vN_6, cN_7, vN_7, cN_8, vN_8, cN_9, vN_9, cN_190, vN_190, wpC, stpC, PC, PV, reduceCtorEq]
    refine ⟨by omega, fun q2 => ⟨by omega, hin, ?_⟩, fun q2 => RX.no (fun r => q2 ⟨r.2.1, Int32.not_lt.mpr r.2.2⟩) h⟩
    have q2 := Decidable.not_not.mp q2
    refine RX.yes ⟨q, q2.1, Int32.not_lt.mp q2.2⟩ ?_
    rw [hkk]
    have hs := SmP.arr S 7 k v (by omega)
    exact h.hv (h.1.cg ⟨h.1.1.1.cg (fun i hi => by rw [upS_row (by omega)]) (upS_row (by omega)) (upS_row (by omega)) (upS_row (by omega)) (upS_row (by omega)), h.1.1.2.cg (by rw [upS_row (by omega)]) (upS_row (by omega))⟩ (h.1.2.1.upT hB (j := 5) (by omega) hk v) (fun i hi => by rw [upd_ap, if_neg (by omega)]) (hs.op 1))
  · rw [bI_f q]
    refine wpC_sound (PC_ok hG _) (by rw [hi]; exact ok_X9_told) (hd := [5]) 400 _ _ _ _ _ _ ?_
    simp only [wp, stp, List.mem_cons, List.not_mem_nil, Nat.reduceEqDiff, or_false, or_self, false_or, or_true, true_or, Nat.reduceAdd, ↓reduceIte, List.getElem?_cons_zero, List.getElem?_cons_succ, nthV, List.set_cons_zero, List.set_cons_succ, noL, popA, catS, Value.category, List.length_cons, List.length_nil, Nat.reduceLT, Nat.reduceLeDiff, true_and, and_true, one0, zer1, imp_t, imp_f, ofN_nI, sdead, f20, f21, not_true_eq_false, upC_ap, upC_upC, retC, fitC, isRefT, Option.toList_some, Option.toList_none, List.cons_append, List.nil_append, Nat.lt_add_one, Nat.zero_lt_succ, Nat.le_refl, Nat.add_zero, Nat.zero_add, Nat.one_ne_zero, Nat.zero_ne_one, Nat.lt_irrefl, List.length_set, fa_X9_told, hi, hd, hQ, mr_X9_told, mM_31, mM_32, mM_33, mM_34, mM_35, mM_36, mM_37, mM_38, mM_39, mM_40, mM_41, mM_42, mM_43, mM_44, mM_45, mM_46, mM_47, mM_48, mu_31, mu_32, mu_33, mu_34, mu_35, mu_36, mu_37, mu_38, mu_39, mu_40, mu_41, mu_42, mu_43, mu_44, mu_45, mu_46, mu_47, mu_48, mO_len, mg_0, mg_1, mg_2, mg_3, mg_4, mg_5, mg_6, mg_7, mg_8, mg_9, mg_10, mg_11, mg_12, mg_13, mg_14, mg_15, mg_16, mg_17, mg_18, mg_19, mg_20, mg_21, mg_22, mg_23, mg_24, mg_25, mg_26, mg_27, mg_28, mg_29, mg_30, mg_31, mg_32, mg_33, mg_34, mg_35, ms_2, ms_8, ms_9, ms_10, ms_11, ms_12, ms_13, ms_14, ms_15, ms_16, ms_17, ms_18, ms_19, ms_22, ms_23, ms_32, ms_33, ms_34, ms_35, cN_0, vN_0, cN_1, vN_1, cN_2, vN_2, cN_3, vN_3, cN_4, vN_4, cN_5, vN_5, cN_6, vN_6, cN_7, vN_7, cN_8, vN_8, cN_9, vN_9, cN_190, vN_190, wpC, stpC, PC, PV, reduceCtorEq]
    exact fun _ => RX.no (fun r => q r.1) h
theorem t9_at (hG : Ok G) (hd1 : 3 ≤ d) (h : RM S L tb tl fk fp kp I W A s) (y w : Int32) : Tr G d 191 [.ref 31, .int y, .int w] n z (mM f0 I W A s) (RX S L tb tl fk fp kp n z f0 (atR S y w)) := by
  have hB := h.1.1.1.1.1
  have e0 : w = 0 ↔ w.toInt = 0 := by rw [← Int32.toInt_inj]; rfl
  have e1 : w = 1 ↔ w.toInt = 1 := by rw [← Int32.toInt_inj]; rfl
  have t0 : (0 : Int32).toInt = 0 := rfl
  have t2 : (2 : Int32).toInt = 2 := rfl
  refine Tr.of2 (ls0 := [.ref 31, .int y, .int w]) hG mo_X9_at (Nat.le_of_ble_eq_true rfl) rfl ?_
  intro X hi hd hXn hXz hXf hQ
  refine wpC_sound (PC_ok hG _) (by rw [hi]; exact ok_X9_at) (hd := [5, 46, 54]) 400 _ _ _ _ _ _ ?_
  simp only [wp, stp, List.mem_cons, List.not_mem_nil, Nat.reduceEqDiff, or_false, or_self, false_or, or_true, true_or, Nat.reduceAdd, ↓reduceIte, List.getElem?_cons_zero, List.getElem?_cons_succ, nthV, List.set_cons_zero, List.set_cons_succ, noL, popA, catS, Value.category, List.length_cons, List.length_nil, Nat.reduceLT, Nat.reduceLeDiff, true_and, and_true, one0, zer1, imp_t, imp_f, ofN_nI, sdead, f20, f21, not_true_eq_false, upC_ap, upC_upC, retC, fitC, isRefT, Option.toList_some, Option.toList_none, List.cons_append, List.nil_append, Nat.lt_add_one, Nat.zero_lt_succ, Nat.le_refl, Nat.add_zero, Nat.zero_add, Nat.one_ne_zero, Nat.zero_ne_one, Nat.lt_irrefl, List.length_set, fa_X9_at, hi, hd, hQ, mr_X9_at, mM_31, mM_32, mM_33, mM_34, mM_35, mM_36, mM_37, mM_38, mM_39, mM_40, mM_41, mM_42, mM_43, mM_44, mM_45, mM_46, mM_47, mM_48, mu_31, mu_32, mu_33, mu_34, mu_35, mu_36, mu_37, mu_38, mu_39, mu_40, mu_41, mu_42, mu_43, mu_44, mu_45, mu_46, mu_47, mu_48, mO_len, mg_0, mg_1, mg_2, mg_3, mg_4, mg_5, mg_6, mg_7, mg_8, mg_9, mg_10, mg_11, mg_12, mg_13, mg_14, mg_15, mg_16, mg_17, mg_18, mg_19, mg_20, mg_21, mg_22, mg_23, mg_24, mg_25, mg_26, mg_27, mg_28, mg_29, mg_30, mg_31, mg_32, mg_33, mg_34, mg_35, ms_2, ms_8, ms_9, ms_10, ms_11, ms_12, ms_13, ms_14, ms_15, ms_16, ms_17, ms_18, ms_19, ms_22, ms_23, ms_32, ms_33, ms_34, ms_35, cN_0, vN_0, cN_1, vN_1, cN_2, vN_2, cN_3, vN_3, cN_4, vN_4, cN_5, vN_5, cN_6, vN_6, cN_7, vN_7, cN_8, vN_8, cN_9, vN_9, cN_190, vN_190, wpC, stpC, PC, PV, reduceCtorEq]
  refine ⟨by omega, _, t9_isYard hG (by omega) hB h.1.2.1 y, ?_⟩
  rintro r n2 z2 f2 ⟨rfl, rfl, rfl, rfl⟩
  by_cases q : inS S y
  · obtain ⟨k, hk, rfl⟩ := inS_nI q
    have hkk : (nI k).toNatClampNeg = k := nI_clamp (by omega)
    have hin : vp_in (20 + nI k) 1075 := by rw [show (20 : Int32) = nI 20 from rfl, nI_add, vin_nI (by omega)]; omega
    have hcl : (20 + nI k).toNatClampNeg = 20 + k := by rw [show (20 : Int32) = nI 20 from rfl, nI_add, nI_clamp (by omega)]
    have ek : W (20 + k) = S 1 k := by
      rw [h.1.2.1.1.2 k hk]; unfold kB; rw [if_neg (fun r => absurd r.1 (by decide))]
    rw [bI_t q]
    refine wpC_sound (PC_ok hG _) (by rw [hi]; exact ok_X9_at) (hd := [5, 46, 54]) 400 _ _ _ _ _ _ ?_
    simp only [wp, stp, List.mem_cons, List.not_mem_nil, Nat.reduceEqDiff, or_false, or_self, false_or, or_true, true_or, Nat.reduceAdd, ↓reduceIte, List.getElem?_cons_zero, List.getElem?_cons_succ, nthV, List.set_cons_zero, List.set_cons_succ, noL, popA, catS, Value.category, List.length_cons, List.length_nil, Nat.reduceLT, Nat.reduceLeDiff, true_and, and_true, one0, zer1, imp_t, imp_f, ofN_nI, sdead, f20, f21, not_true_eq_false, upC_ap, upC_upC, retC, fitC, isRefT, Option.toList_some, Option.toList_none, List.cons_append, List.nil_append, Nat.lt_add_one, Nat.zero_lt_succ, Nat.le_refl, Nat.add_zero, Nat.zero_add, Nat.one_ne_zero, Nat.zero_ne_one, Nat.lt_irrefl, List.length_set, fa_X9_at, hi, hd, hQ, mr_X9_at, bI_0, hcl, ek, mM_31, mM_32, mM_33, mM_34, mM_35, mM_36, mM_37, mM_38, mM_39, mM_40, mM_41, mM_42, mM_43, mM_44, mM_45, mM_46, mM_47, mM_48, mu_31, mu_32, mu_33, mu_34, mu_35, mu_36, mu_37, mu_38, mu_39, mu_40, mu_41, mu_42, mu_43, mu_44, mu_45, mu_46, mu_47, mu_48, mO_len, mg_0, mg_1, mg_2, mg_3, mg_4, mg_5, mg_6, mg_7, mg_8, mg_9, mg_10, mg_11, mg_12, mg_13, mg_14, mg_15, mg_16, mg_17, mg_18, mg_19, mg_20, mg_21, mg_22, mg_23, mg_24, mg_25, mg_26, mg_27, mg_28, mg_29, mg_30, mg_31, mg_32, mg_33, mg_34, mg_35, ms_2, ms_8, ms_9, ms_10, ms_11, ms_12, ms_13, ms_14, ms_15, ms_16, ms_17, ms_18, ms_19, ms_22, ms_23, ms_32, ms_33, ms_34, ms_35, cN_0, vN_0, cN_1, vN_1, cN_2, vN_2, cN_3, vN_3, cN_4, vN_4, cN_5, vN_5, cN_6, vN_6, cN_7, vN_7, cN_8, vN_8, cN_9, vN_9, cN_190, vN_190, wpC, stpC, PC, PV, reduceCtorEq]
    have e : atR S (nI k) w = (if w.toInt = 0 then S 1 k else if w.toInt = 1 then tentAtS S (nI k) else if w.toInt = 2 then manAtS S (nI k) else -2) := by unfold atR; rw [if_pos q, hkk]
    rw [e]
    refine ⟨by omega, fun q1 => ⟨fun q2 => ⟨fun q3 => ⟨by omega, _, t9_manAt hG (by omega) hB h.1.2.1 _, ?_⟩, fun q3 => ⟨by omega, _, t9_tentAt hG (by omega) hB h.1.2.1 _, ?_⟩⟩, fun q2 => ⟨hin, ?_⟩⟩, fun q1 => ?_⟩
    · rintro r n2 z2 f2 ⟨rfl, rfl, rfl, rfl⟩
      refine wpC_sound (PC_ok hG _) (by rw [hi]; exact ok_X9_at) (hd := [5, 46, 54]) 400 _ _ _ _ _ _ ?_
      simp only [wp, stp, List.mem_cons, List.not_mem_nil, Nat.reduceEqDiff, or_false, or_self, false_or, or_true, true_or, Nat.reduceAdd, ↓reduceIte, List.getElem?_cons_zero, List.getElem?_cons_succ, nthV, List.set_cons_zero, List.set_cons_succ, noL, popA, catS, Value.category, List.length_cons, List.length_nil, Nat.reduceLT, Nat.reduceLeDiff, true_and, and_true, one0, zer1, imp_t, imp_f, ofN_nI, sdead, f20, f21, not_true_eq_false, upC_ap, upC_upC, retC, fitC, isRefT, Option.toList_some, Option.toList_none, List.cons_append, List.nil_append, Nat.lt_add_one, Nat.zero_lt_succ, Nat.le_refl, Nat.add_zero, Nat.zero_add, Nat.one_ne_zero, Nat.zero_ne_one, Nat.lt_irrefl, List.length_set, fa_X9_at, hi, hd, hQ, mr_X9_at, mM_31, mM_32, mM_33, mM_34, mM_35, mM_36, mM_37, mM_38, mM_39, mM_40, mM_41, mM_42, mM_43, mM_44, mM_45, mM_46, mM_47, mM_48, mu_31, mu_32, mu_33, mu_34, mu_35, mu_36, mu_37, mu_38, mu_39, mu_40, mu_41, mu_42, mu_43, mu_44, mu_45, mu_46, mu_47, mu_48, mO_len, mg_0, mg_1, mg_2, mg_3, mg_4, mg_5, mg_6, mg_7, mg_8, mg_9, mg_10, mg_11, mg_12, mg_13, mg_14, mg_15, mg_16, mg_17, mg_18, mg_19, mg_20, mg_21, mg_22, mg_23, mg_24, mg_25, mg_26, mg_27, mg_28, mg_29, mg_30, mg_31, mg_32, mg_33, mg_34, mg_35, ms_2, ms_8, ms_9, ms_10, ms_11, ms_12, ms_13, ms_14, ms_15, ms_16, ms_17, ms_18, ms_19, ms_22, ms_23, ms_32, ms_33, ms_34, ms_35, cN_0, vN_0, cN_1, vN_1, cN_2, vN_2, cN_3, vN_3, cN_4, vN_4, cN_5, vN_5, cN_6, vN_6, cN_7, vN_7, cN_8, vN_8, cN_9, vN_9, cN_190, vN_190, wpC, stpC, PC, PV, reduceCtorEq]
      have q1 := Decidable.not_not.mp q1
      rw [Int32.lt_iff_toInt_lt, Int32.lt_iff_toInt_lt] at q1
      rw [e0] at q2
      rw [e1] at q3
      exact RX.i (by rw [e, if_neg q2, if_neg q3, if_pos (by omega)]) h
    · rintro r n2 z2 f2 ⟨rfl, rfl, rfl, rfl⟩
      refine wpC_sound (PC_ok hG _) (by rw [hi]; exact ok_X9_at) (hd := [5, 46, 54]) 400 _ _ _ _ _ _ ?_
      simp only [wp, stp, List.mem_cons, List.not_mem_nil, Nat.reduceEqDiff, or_false, or_self, false_or, or_true, true_or, Nat.reduceAdd, ↓reduceIte, List.getElem?_cons_zero, List.getElem?_cons_succ, nthV, List.set_cons_zero, List.set_cons_succ, noL, popA, catS, Value.category, List.length_cons, List.length_nil, Nat.reduceLT, Nat.reduceLeDiff, true_and, and_true, one0, zer1, imp_t, imp_f, ofN_nI, sdead, f20, f21, not_true_eq_false, upC_ap, upC_upC, retC, fitC, isRefT, Option.toList_some, Option.toList_none, List.cons_append, List.nil_append, Nat.lt_add_one, Nat.zero_lt_succ, Nat.le_refl, Nat.add_zero, Nat.zero_add, Nat.one_ne_zero, Nat.zero_ne_one, Nat.lt_irrefl, List.length_set, fa_X9_at, hi, hd, hQ, mr_X9_at, mM_31, mM_32, mM_33, mM_34, mM_35, mM_36, mM_37, mM_38, mM_39, mM_40, mM_41, mM_42, mM_43, mM_44, mM_45, mM_46, mM_47, mM_48, mu_31, mu_32, mu_33, mu_34, mu_35, mu_36, mu_37, mu_38, mu_39, mu_40, mu_41, mu_42, mu_43, mu_44, mu_45, mu_46, mu_47, mu_48, mO_len, mg_0, mg_1, mg_2, mg_3, mg_4, mg_5, mg_6, mg_7, mg_8, mg_9, mg_10, mg_11, mg_12, mg_13, mg_14, mg_15, mg_16, mg_17, mg_18, mg_19, mg_20, mg_21, mg_22, mg_23, mg_24, mg_25, mg_26, mg_27, mg_28, mg_29, mg_30, mg_31, mg_32, mg_33, mg_34, mg_35, ms_2, ms_8, ms_9, ms_10, ms_11, ms_12, ms_13, ms_14, ms_15, ms_16, ms_17, ms_18, ms_19, ms_22, ms_23, ms_32, ms_33, ms_34, ms_35, cN_0, vN_0, cN_1, vN_1, cN_2, vN_2, cN_3, vN_3, cN_4, vN_4, cN_5, vN_5, cN_6, vN_6, cN_7, vN_7, cN_8, vN_8, cN_9, vN_9, cN_190, vN_190, wpC, stpC, PC, PV, reduceCtorEq]
      rw [e1] at q3
      rw [e0] at q2
      refine wpC_sound (PC_ok hG _) (by rw [hi]; exact ok_X9_at) (hd := [5, 46, 54]) 400 _ _ _ _ _ _ ?_
      simp only [wp, stp, List.mem_cons, List.not_mem_nil, Nat.reduceEqDiff, or_false, or_self, false_or, or_true, true_or, Nat.reduceAdd, ↓reduceIte, List.getElem?_cons_zero, List.getElem?_cons_succ, nthV, List.set_cons_zero, List.set_cons_succ, noL, popA, catS, Value.category, List.length_cons, List.length_nil, Nat.reduceLT, Nat.reduceLeDiff, true_and, and_true, one0, zer1, imp_t, imp_f, ofN_nI, sdead, f20, f21, not_true_eq_false, upC_ap, upC_upC, retC, fitC, isRefT, Option.toList_some, Option.toList_none, List.cons_append, List.nil_append, Nat.lt_add_one, Nat.zero_lt_succ, Nat.le_refl, Nat.add_zero, Nat.zero_add, Nat.one_ne_zero, Nat.zero_ne_one, Nat.lt_irrefl, List.length_set, fa_X9_at, hi, hd, hQ, mr_X9_at, mM_31, mM_32, mM_33, mM_34, mM_35, mM_36, mM_37, mM_38, mM_39, mM_40, mM_41, mM_42, mM_43, mM_44, mM_45, mM_46, mM_47, mM_48, mu_31, mu_32, mu_33, mu_34, mu_35, mu_36, mu_37, mu_38, mu_39, mu_40, mu_41, mu_42, mu_43, mu_44, mu_45, mu_46, mu_47, mu_48, mO_len, mg_0, mg_1, mg_2, mg_3, mg_4, mg_5, mg_6, mg_7, mg_8, mg_9, mg_10, mg_11, mg_12, mg_13, mg_14, mg_15, mg_16, mg_17, mg_18, mg_19, mg_20, mg_21, mg_22, mg_23, mg_24, mg_25, mg_26, mg_27, mg_28, mg_29, mg_30, mg_31, mg_32, mg_33, mg_34, mg_35, ms_2, ms_8, ms_9, ms_10, ms_11, ms_12, ms_13, ms_14, ms_15, ms_16, ms_17, ms_18, ms_19, ms_22, ms_23, ms_32, ms_33, ms_34, ms_35, cN_0, vN_0, cN_1, vN_1, cN_2, vN_2, cN_3, vN_3, cN_4, vN_4, cN_5, vN_5, cN_6, vN_6, cN_7, vN_7, cN_8, vN_8, cN_9, vN_9, cN_190, vN_190, wpC, stpC, PC, PV, reduceCtorEq]
      exact RX.i (by rw [e, if_neg q2, if_pos q3]) h
    · refine wpC_sound (PC_ok hG _) (by rw [hi]; exact ok_X9_at) (hd := [5, 46, 54]) 400 _ _ _ _ _ _ ?_
      simp only [wp, stp, List.mem_cons, List.not_mem_nil, Nat.reduceEqDiff, or_false, or_self, false_or, or_true, true_or, Nat.reduceAdd, ↓reduceIte, List.getElem?_cons_zero, List.getElem?_cons_succ, nthV, List.set_cons_zero, List.set_cons_succ, noL, popA, catS, Value.category, List.length_cons, List.length_nil, Nat.reduceLT, Nat.reduceLeDiff, true_and, and_true, one0, zer1, imp_t, imp_f, ofN_nI, sdead, f20, f21, not_true_eq_false, upC_ap, upC_upC, retC, fitC, isRefT, Option.toList_some, Option.toList_none, List.cons_append, List.nil_append, Nat.lt_add_one, Nat.zero_lt_succ, Nat.le_refl, Nat.add_zero, Nat.zero_add, Nat.one_ne_zero, Nat.zero_ne_one, Nat.lt_irrefl, List.length_set, fa_X9_at, hi, hd, hQ, mr_X9_at, mM_31, mM_32, mM_33, mM_34, mM_35, mM_36, mM_37, mM_38, mM_39, mM_40, mM_41, mM_42, mM_43, mM_44, mM_45, mM_46, mM_47, mM_48, mu_31, mu_32, mu_33, mu_34, mu_35, mu_36, mu_37, mu_38, mu_39, mu_40, mu_41, mu_42, mu_43, mu_44, mu_45, mu_46, mu_47, mu_48, mO_len, mg_0, mg_1, mg_2, mg_3, mg_4, mg_5, mg_6, mg_7, mg_8, mg_9, mg_10, mg_11, mg_12, mg_13, mg_14, mg_15, mg_16, mg_17, mg_18, mg_19, mg_20, mg_21, mg_22, mg_23, mg_24, mg_25, mg_26, mg_27, mg_28, mg_29, mg_30, mg_31, mg_32, mg_33, mg_34, mg_35, ms_2, ms_8, ms_9, ms_10, ms_11, ms_12, ms_13, ms_14, ms_15, ms_16, ms_17, ms_18, ms_19, ms_22, ms_23, ms_32, ms_33, ms_34, ms_35, cN_0, vN_0, cN_1, vN_1, cN_2, vN_2, cN_3, vN_3, cN_4, vN_4, cN_5, vN_5, cN_6, vN_6, cN_7, vN_7, cN_8, vN_8, cN_9, vN_9, cN_190, vN_190, wpC, stpC, PC, PV, reduceCtorEq]
      exact RX.i (by rw [e, if_pos (e0.mp q2)]) h
    · refine RX.i ?_ h
      rw [Int32.lt_iff_toInt_lt, Int32.lt_iff_toInt_lt] at q1
      rw [if_neg (by omega), if_neg (by omega), if_neg (by omega)]
  · rw [bI_f q]
    refine wpC_sound (PC_ok hG _) (by rw [hi]; exact ok_X9_at) (hd := [5, 46, 54]) 400 _ _ _ _ _ _ ?_
    simp only [wp, stp, List.mem_cons, List.not_mem_nil, Nat.reduceEqDiff, or_false, or_self, false_or, or_true, true_or, Nat.reduceAdd, ↓reduceIte, List.getElem?_cons_zero, List.getElem?_cons_succ, nthV, List.set_cons_zero, List.set_cons_succ, noL, popA, catS, Value.category, List.length_cons, List.length_nil, Nat.reduceLT, Nat.reduceLeDiff, true_and, and_true, one0, zer1, imp_t, imp_f, ofN_nI, sdead, f20, f21, not_true_eq_false, upC_ap, upC_upC, retC, fitC, isRefT, Option.toList_some, Option.toList_none, List.cons_append, List.nil_append, Nat.lt_add_one, Nat.zero_lt_succ, Nat.le_refl, Nat.add_zero, Nat.zero_add, Nat.one_ne_zero, Nat.zero_ne_one, Nat.lt_irrefl, List.length_set, fa_X9_at, hi, hd, hQ, mr_X9_at, mM_31, mM_32, mM_33, mM_34, mM_35, mM_36, mM_37, mM_38, mM_39, mM_40, mM_41, mM_42, mM_43, mM_44, mM_45, mM_46, mM_47, mM_48, mu_31, mu_32, mu_33, mu_34, mu_35, mu_36, mu_37, mu_38, mu_39, mu_40, mu_41, mu_42, mu_43, mu_44, mu_45, mu_46, mu_47, mu_48, mO_len, mg_0, mg_1, mg_2, mg_3, mg_4, mg_5, mg_6, mg_7, mg_8, mg_9, mg_10, mg_11, mg_12, mg_13, mg_14, mg_15, mg_16, mg_17, mg_18, mg_19, mg_20, mg_21, mg_22, mg_23, mg_24, mg_25, mg_26, mg_27, mg_28, mg_29, mg_30, mg_31, mg_32, mg_33, mg_34, mg_35, ms_2, ms_8, ms_9, ms_10, ms_11, ms_12, ms_13, ms_14, ms_15, ms_16, ms_17, ms_18, ms_19, ms_22, ms_23, ms_32, ms_33, ms_34, ms_35, cN_0, vN_0, cN_1, vN_1, cN_2, vN_2, cN_3, vN_3, cN_4, vN_4, cN_5, vN_5, cN_6, vN_6, cN_7, vN_7, cN_8, vN_8, cN_9, vN_9, cN_190, vN_190, wpC, stpC, PC, PV, reduceCtorEq]
    exact fun _ => RX.i (by unfold atR; rw [if_neg q]) h
end Mas
