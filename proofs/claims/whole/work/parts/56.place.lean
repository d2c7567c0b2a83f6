-- Placings: one pay, the best pay
set_option maxRecDepth 100000
set_option maxHeartbeats 4000000
/-- the block of the placings at tp -/
def PL (f : Mf) (tp : Nat) (an pl : Nat → Int32) (cnt : Int32) (py bs : Nat → Int32) : Prop :=
  f tp = cO 4 [.ref (tp + 1), .ref 1, .ref 20, .ref (tp + 2), .int cnt, .ref (tp + 3), .ref (tp + 4)] ∧ f (tp + 1) = cI 24 an ∧ f (tp + 2) = cI 36 pl ∧ f (tp + 3) = cI 1332 py ∧ f (tp + 4) = cI 1369 bs
theorem PL.cong {f f' : Mf} {tp : Nat} {an pl py bs : Nat → Int32} {cnt : Int32} (h : PL f tp an pl cnt py bs) (hf : ∀ x, tp ≤ x → x ≤ tp + 4 → f' x = f x) : PL f' tp an pl cnt py bs := by
  unfold PL at *
  rw [hf tp (by omega) (by omega), hf (tp + 1) (by omega) (by omega), hf (tp + 2) (by omega) (by omega), hf (tp + 3) (by omega) (by omega), hf (tp + 4) (by omega) (by omega)]
  exact h
theorem PL.row {f : Mf} {tp : Nat} {an pl py bs : Nat → Int32} {cnt : Int32} (h : PL f tp an pl cnt py bs) {x : Nat} (h1 : tp ≤ x) (h2 : x ≤ tp + 4) : ¬ RowC (f x) := by
  obtain ⟨a1, a2, a3, a4, a5⟩ := h
  rcases (by omega : x = tp ∨ x = tp + 1 ∨ x = tp + 2 ∨ x = tp + 3 ∨ x = tp + 4) with rfl | rfl | rfl | rfl | rfl
  · rw [a1]; exact not_row_o
  · rw [a2]; exact not_row_i
  · rw [a3]; exact not_row_i
  · rw [a4]; exact not_row_i
  · rw [a5]; exact not_row_i
theorem PL.frm {A : List Nat} {f f' : Mf} {n tp : Nat} {an pl py bs : Nat → Int32} {cnt : Int32} (h : PL f tp an pl cnt py bs) (hF : FRM A f n f') (h49 : 49 ≤ tp) (hn : tp + 5 ≤ n) : PL f' tp an pl cnt py bs := h.cong (fun x h1 h2 => hF.2.1 x (by omega) (by omega) (h.row h1 h2))
theorem LwP.frm {A : List Nat} {f f' : Mf} {n lp : Nat} {L : Lw} (h : LwP f lp L) (hF : FRM A f n f') (hA : 10 ∉ A) (hl : lp = 10 ∨ 49 ≤ lp) (hn : lp < n) : LwP f' lp L := by
  unfold LwP at *
  rcases hl with e | e
  · rw [hF.1 lp (by omega) (by rw [e]; exact hA)]; exact h
  · rw [hF.2.1 lp e hn (by rw [h]; exact not_row_o)]; exact h
/-- the yards of the places -/
def PlY (S : Sta) (pl : Nat → Int32) (cnt : Nat) (yd : Nat → Nat) : Prop := cnt ≤ 36 ∧ (∀ i, i < cnt → pl i = nI (yd i) ∧ gsN S (yd i)) ∧ ∀ i j, i < cnt → j < cnt → i < j → yd i < yd j
theorem PlY.ne {S : Sta} {pl : Nat → Int32} {cnt : Nat} {yd : Nat → Nat} (h : PlY S pl cnt yd) {i j : Nat} (hi : i < cnt) (hj : j < cnt) (hij : ¬ i = j) : ¬ yd i = yd j := by
  rcases Nat.lt_or_ge i j with q | q
  · have := h.2.2 i j hi hj q; omega
  · have := h.2.2 j i hj hi (by omega); omega
def PyOk (S : Sta) (L : Lw) (cnt : Nat) (yd : Nat → Nat) (py : Nat → Int32) : Prop := ∀ i col, i < cnt → col ≤ 36 → py (37 * i + col) = -1 ∨ py (37 * i + col) = nI (colV S L (yd i) col)
theorem PyOk.up {S : Sta} {L : Lw} {cnt : Nat} {yd : Nat → Nat} {py : Nat → Int32} (h : PyOk S L cnt yd py) {i col : Nat} (hc : col ≤ 36) : PyOk S L cnt yd (upd py (37 * i + col) (nI (colV S L (yd i) col))) := fun i' col' hi' hc' => by
  rw [upd_ap]
  by_cases e : 37 * i' + col' = 37 * i + col
  · rw [if_pos e]
    have e1 : i' = i := by omega
    have e2 : col' = col := by omega
    subst e1; subst e2
    exact Or.inr rfl
  · rw [if_neg e]; exact h i' col' hi' hc'
/-- an other one, told by its place -/
def okO (cnt i : Nat) : Option Nat → Prop
  | none => True
  | some a => a < cnt ∧ ¬ a = i
abbrev FP : List Nat := [13, 14, 15, 20, 21]
section Pl1
variable {G : Gam} {d n z lp N Z K tp cnt i : Nat} {f : Mf} {S : Sta} {L : Lw} {an pl py bs : Nat → Int32} {yd : Nat → Nat}
theorem t_plPayAt (hG : Ok G) (hd1 : 3 ≤ d) (hB : Bd S) (h36 : wdt S * hgt S ≤ 36) (hW : CW S L lp N Z K f n z) (hl : LwP f lp L) (h49 : 49 ≤ tp) (hn5 : tp + 5 ≤ n) (hsep : lp + 1 < tp ∨ tp + 4 < lp) (hP : PL f tp an pl (nI cnt) py bs) (hY : PlY S pl cnt yd) (hpy : PyOk S L cnt yd py) (hi : i < cnt) {a b : Option Nat} (ha : okO cnt i a) (hb : okO cnt i b) : Tr G d 54 [.ref tp, .int (nI i), .int (eO a), .int (eO b)] n z f (fun v n' z' f' => v = some (.int (nI (ppN S L (yd i) (a.map yd) (b.map yd)))) ∧ CW S L lp N Z K f' n' z' ∧ LwP f' lp L ∧ (∃ py', PL f' tp an pl (nI cnt) py' bs ∧ PyOk S L cnt yd py') ∧ FRB FP tp 5 f n f' ∧ n ≤ n') := by
  obtain ⟨g1, g2, w1, w2, w3, w4, w5⟩ := id hW.2.2.2.2.2.2
  obtain ⟨q1, q2, q3⟩ := id hW.2.2.1
  have hCAP : CAP = 600000 := rfl
  obtain ⟨bY, kn0, fk0, fa0, ne0, hk0⟩ := hW.kb
  unfold KV at hk0
  obtain ⟨p1, p2, p3, p4, p5⟩ := id hP
  obtain ⟨y1, y2, y3⟩ := id hY
  obtain ⟨ei, hgi⟩ := y2 i hi
  have hci : (nI i).toNatClampNeg = i := nI_clamp (by omega)
  have hii : vp_in (nI i) 36 := (vin_nI (by omega)).mpr (by omega)
  have hcy : ∀ j, j < cnt → (nI (yd j)).toNatClampNeg = yd j := fun j hj => nI_clamp (by have := (y2 j hj).2.1.1; omega)
  obtain ⟨sg, qq, v1, -⟩ := id w1
  refine Tr.of2 (ls0 := [.ref tp, .int (nI i), .int (eO a), .int (eO b), dead, dead, dead, dead, dead, dead, dead]) hG mo_X4_payAt (Nat.le_of_ble_eq_true rfl) rfl ?_
  intro X hi hd hXn hXz hXf hQ
  refine wp_sound (by rw [hi]; exact ok_X4_payAt) (hd := [16, 199]) 400 _ _ _ _ _ _ ?_
  simp (disch := omega) only [wp, stp, List.mem_cons, List.not_mem_nil, Nat.reduceEqDiff, or_false, or_self, false_or, or_true, true_or, Nat.reduceAdd, ↓reduceIte, List.getElem?_cons_zero, List.getElem?_cons_succ, nthV, List.set_cons_zero, List.set_cons_succ, noL, popA, catS, Value.category, List.length_cons, List.length_nil, Nat.reduceLT, Nat.reduceLeDiff, true_and, and_true, one0, zer1, imp_t, imp_f, ofN_nI, sdead, f20, f21, not_true_eq_false, upC_self, upC_ne, upC_upC, retC, fitC, isRefT, Option.toList_some, Option.toList_none, List.cons_append, List.nil_append, Nat.lt_add_one, Nat.zero_lt_succ, Nat.le_refl, Nat.add_zero, Nat.zero_add, Nat.one_ne_zero, Nat.zero_ne_one, Nat.lt_irrefl, List.length_set, fa_X4_payAt, hi, hd, hQ, mr_X4_payAt, p1, p3, hk0, v1, hci, ei]
  refine ⟨hii, by omega, _, t_from_12 hG (by omega) hB hW.1 hW.2.1 w1 q1 hgi.1.1 (hgi.op 1) (by omega) (by omega), ?_⟩
  intro v n1 z1 f1 hF
  obtain ⟨p, r, rfl, e2, e3, hW1, hF1, hn1⟩ := CW.from_12 hW w1 w2 w3 w4 w5 hF
  have hP1 := hP.frm hF1 h49 hn5
  obtain ⟨p1, p2, p3, p4, p5⟩ := id hP1
  have hl1 := hl.frm hF1 (by decide) (by obtain ⟨sp, m, st, kd, vl, l1, -⟩ := hW.2.2.2.1; exact l1.1) (by obtain ⟨sp, m, st, kd, vl, l1, -⟩ := hW.2.2.2.1; exact l1.2)
  have hFB : FRB FP tp 5 f n f1 := (hF1.b tp 5).mono (fun x hx => by simp at hx ⊢; omega)
  -- the lengths to the others
  have way : ∀ x : Option Nat, okO cnt i x → ∃ w : Int32, (w = -1 ∧ dO S (yd i) (x.map yd) = 99 ∧ nO S (yd i) (x.map yd) = 0) ∨ ∃ m, (1 ≤ m ∧ m < 36) ∧ w = nI m ∧ dO S (yd i) (x.map yd) = m ∧ nO S (yd i) (x.map yd) = (if m = 1 then 1 else 0) := by
    sorry
  sorry
end Pl1
