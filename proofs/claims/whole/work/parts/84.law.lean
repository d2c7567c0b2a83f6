-- the law's loop
set_option maxRecDepth 100000
set_option maxHeartbeats 8000000
section Lps
variable {G : Gam} {d n z len sp i : Nat} {f : Mf} {scr : Nat → Int32}
/-- the two worlds after i calls, the script -/
def WX (sp len : Nat) (scr : Nat → Int32) (i : Nat) (f : Mf) (n z : Nat) : Prop := f sp = cI len scr ∧ ∃ S L tb tl fk fp kp I W A s, f = mM f I W A s ∧ XW S L tb tl fk fp kp i f n z ∧ RM S L tb tl fk fp kp I W A s
def lst : List Nat := [152, 175, 208, 241, 284, 307, 330, 373, 436, 459, 472, 495, 518, 551, 584, 617, 640, 673, 696, 709, 742, 775, 798, 831, 854, 893]
theorem lst_t : ∀ j : Fin 26, (((33 : Nat) : Int) + (#[119, 142, 175, 208, 251, 274, 297, 340, 403, 426, 439, 462, 485, 518, 551, 584, 607, 640, 663, 676, 709, 742, 765, 798, 821, 860] : Array Int).toList.getD j.val 0).toNat = lst.getD j.val 0 := by decide +kernel
theorem t_sw {X : Fx} (hi : X.i = 212) {x : Int32} {ls : List Value} (h0 : V G X 916 ls [] n z f) (h : ∀ j, j < 26 → V G X (lst.getD j 0) ls [] n z f) : V G X 33 ls [.int x] n z f := by
  have hfe : fe cd_L_law 33 = some (.tableswitch 883 0 25 #[119, 142, 175, 208, 251, 274, 297, 340, 403, 426, 439, 462, 485, 518, 551, 584, 607, 640, 663, 676, 709, 742, 765, 798, 821, 860], 119, 0, 0, 0, 0) := rfl
  have hdc := dc_L_law _ (fe_mem hfe)
  rw [← hi] at hdc
  refine v_table hdc (by decide) (by decide) (fun _ => h0) (fun j o q1 _ => ?_)
  have hj : j < 26 := (List.getElem?_eq_some_iff.mp q1).1
  have e := lst_t ⟨j, hj⟩
  rw [List.getD_eq_getElem?_getD, q1] at e
  show V G X (((33 : Nat) : Int) + o).toNat ls [] n z f
  rw [show (((33 : Nat) : Int) + o).toNat = lst.getD j 0 from e]
  exact h j hj
theorem t_lhead (hG : Ok G) {X : Fx} (hi : X.i = 212) (hd : X.d = d) (hQ : ∀ n z f, X.Q (some (.int 1)) n z f) (hlen : len ≤ 3072) (h1 : f sp = cI len scr) (h6 : 6 * i ≤ len) (h : ∀ x, 6 * i + 6 ≤ len → V G X 33 [.ref sp, .ref 0, .ref 31, .int (nI (6 * i))] [.int x] n z f) : V G X 18 [.ref sp, .ref 0, .ref 31, .int (nI (6 * i))] [] n z f := by
  refine wp_sound (by rw [hi]; exact ok_L_law) (hd := [33]) 400 _ _ _ _ _ _ ?_
  simp only [wp, stp, List.mem_cons, List.not_mem_nil, Nat.reduceEqDiff, or_false, or_self, false_or, or_true, true_or, Nat.reduceAdd, ↓reduceIte, List.getElem?_cons_zero, List.getElem?_cons_succ, nthV, List.set_cons_zero, List.set_cons_succ, noL, popA, catS, Value.category, List.length_cons, List.length_nil, Nat.reduceLT, Nat.reduceLeDiff, true_and, and_true, one0, zer1, imp_t, imp_f, ofN_nI, sdead, f20, f21, not_true_eq_false, upC_ap, upC_upC, retC, fitC, isRefT, Option.toList_some, Option.toList_none, List.cons_append, List.nil_append, Nat.lt_add_one, Nat.zero_lt_succ, Nat.le_refl, Nat.add_zero, Nat.zero_add, Nat.one_ne_zero, Nat.zero_ne_one, Nat.lt_irrefl, List.length_set, fa_L_law_b, fa_L_law_c, hi, hd, hQ, mr_L_law, h1, tg_L_law, swt, lks, Int.reduceAdd]
  try simp only [m1f]
  try simp (disch := omega) only [nmod, nI_leI, nI_ltI, nI_eq, nI_clamp, vin_nI, nI_1, fa_lit, nI_add, nI_rm3, nI_rm2, pk_rem, pk_mul, pk_sub, pk_div, nI_eM, nI_Me, nI_pM, nI_pMz, nI_pM0, M1_lt, M1_le, nI_ltM, nI_leM, i8_nI, true_and, and_true, false_implies, true_implies, not_false_eq_true, not_true_eq_false, ne_eq, implies_true, Nat.not_lt_zero, Nat.zero_le, ite_min, max0, Nat.reduceLT, Nat.reduceLeDiff, Nat.reduceEqDiff, Nat.reduceAdd, Nat.reduceMul]
  try simp only [m1u]
  intro hlt
  have h62 : 6 * i + 6 ≤ len := by
    rw [Int32.lt_iff_toInt_lt, Int32.toInt_sub, nI_toInt (by omega), nI_toInt (by omega), nI_toInt (by omega), Int.bmod_eq_of_le (by omega) (by omega)] at hlt
    omega
  exact ⟨by omega, h _ h62⟩
end Lps
