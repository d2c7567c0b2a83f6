-- Placings: one pay, the best pay
set_option maxRecDepth 100000
set_option maxHeartbeats 4000000
/-- the block of the placings at tp -/
def PL (f : Mf) (tp : Nat) (an pl : Nat → Int32) (cnt : Int32) (py bs : Nat → Int32) : Prop :=
  f tp = cO 4 [.ref (tp + 1), .ref 1, .ref 20, .ref (tp + 2), .int cnt, .ref (tp + 3), .ref (tp + 4)] ∧ f (tp + 1) = cI 24 an ∧ f (tp + 2) = cI 36 pl ∧ f (tp + 3) = cI 1332 py ∧ f (tp + 4) = cI 1369 bs
theorem PL.cong {f f' : Mf} {tp : Nat} {an pl py bs : Nat → Int32} {cnt : Int32} (h : PL f tp an pl cnt py bs) (hf : ∀ x, tp ≤ x → x ≤ tp + 4 → f' x = f x) : PL f' tp an pl cnt py bs := by
  unfold PL at *
  rw [hf tp (by omega) (by omega), hf (tp + 1) (by omega) (by omega), hf (tp + 2) (by omega) (by omega), hf (tp + 3) (by omega) (by omega), hf (tp + 4) (by omega) (by omega)]
  exact h
theorem PL.row {f : Mf} {tp : Nat} {an pl py bs : Nat → Int32} {cnt : Int32} (h : PL f tp an pl cnt py bs) {x : Nat} (h1 : tp ≤ x) (h2 : x ≤ tp + 4) : ¬ RowC (f x) := by
  obtain ⟨a1, a2, a3, a4, a5⟩ := h
  rcases (by omega : x = tp ∨ x = tp + 1 ∨ x = tp + 2 ∨ x = tp + 3 ∨ x = tp + 4) with rfl | rfl | rfl | rfl | rfl
  · rw [a1]; exact not_row_o
  · rw [a2]; exact not_row_i
  · rw [a3]; exact not_row_i
  · rw [a4]; exact not_row_i
  · rw [a5]; exact not_row_i
theorem PL.frm {A : List Nat} {f f' : Mf} {n tp : Nat} {an pl py bs : Nat → Int32} {cnt : Int32} (h : PL f tp an pl cnt py bs) (hF : FRM A f n f') (h49 : 49 ≤ tp) (hn : tp + 5 ≤ n) : PL f' tp an pl cnt py bs := h.cong (fun x h1 h2 => hF.2.1 x (by omega) (by omega) (h.row h1 h2))
theorem LwP.frm {A : List Nat} {f f' : Mf} {n lp : Nat} {L : Lw} (h : LwP f lp L) (hF : FRM A f n f') (hA : 10 ∉ A) (hl : lp = 10 ∨ 49 ≤ lp) (hn : lp < n) : LwP f' lp L := by
  unfold LwP at *
  rcases hl with e | e
  · rw [hF.1 lp (by omega) (by rw [e]; exact hA)]; exact h
  · rw [hF.2.1 lp e hn (by rw [h]; exact not_row_o)]; exact h
/-- the yards of the places -/
def PlY (S : Sta) (pl : Nat → Int32) (cnt : Nat) (yd : Nat → Nat) : Prop := cnt ≤ 36 ∧ (∀ i, i < cnt → pl i = nI (yd i) ∧ gsN S (yd i)) ∧ ∀ i j, i < cnt → j < cnt → i < j → yd i < yd j
theorem PlY.ne {S : Sta} {pl : Nat → Int32} {cnt : Nat} {yd : Nat → Nat} (h : PlY S pl cnt yd) {i j : Nat} (hi : i < cnt) (hj : j < cnt) (hij : ¬ i = j) : ¬ yd i = yd j := by
  rcases Nat.lt_or_ge i j with q | q
  · have := h.2.2 i j hi hj q; omega
  · have := h.2.2 j i hj hi (by omega); omega
def PyOk (S : Sta) (L : Lw) (cnt : Nat) (yd : Nat → Nat) (py : Nat → Int32) : Prop := ∀ i col, i < cnt → col ≤ 36 → py (37 * i + col) = -1 ∨ py (37 * i + col) = nI (colV S L (yd i) col)
theorem PyOk.up {S : Sta} {L : Lw} {cnt : Nat} {yd : Nat → Nat} {py : Nat → Int32} (h : PyOk S L cnt yd py) {i col : Nat} (hc : col ≤ 36) : PyOk S L cnt yd (upd py (37 * i + col) (nI (colV S L (yd i) col))) := fun i' col' hi' hc' => by
  rw [upd_ap]
  by_cases e : 37 * i' + col' = 37 * i + col
  · rw [if_pos e]
    have e1 : i' = i := by omega
    have e2 : col' = col := by omega
    subst e1; subst e2
    exact Or.inr rfl
  · rw [if_neg e]; exact h i' col' hi' hc'
/-- an other one, told by its place -/
def okO (cnt i : Nat) : Option Nat → Prop
  | none => True
  | some a => a < cnt ∧ ¬ a = i
noncomputable def wyO (S : Sta) (c : Nat) : Option Nat → Int32
  | none => -1
  | some p => wayS S 1 c p
theorem wyO_in {S : Sta} {cnt i : Nat} {pl : Nat → Int32} {yd : Nat → Nat} (hB : Bd S) (h36 : wdt S * hgt S ≤ 36) (hY : PlY S pl cnt yd) (hi : i < cnt) {x : Option Nat} (hx : okO cnt i x) : (wyO S (yd i) (x.map yd) = -1 ∧ dO S (yd i) (x.map yd) = 99 ∧ nO S (yd i) (x.map yd) = 0) ∨ ∃ m, (1 ≤ m ∧ m < 36) ∧ wyO S (yd i) (x.map yd) = nI m ∧ dO S (yd i) (x.map yd) = m ∧ nO S (yd i) (x.map yd) = (if m = 1 then 1 else 0) := by
  cases x with
  | none => exact Or.inl ⟨rfl, rfl, rfl⟩
  | some a =>
    obtain ⟨ha1, ha2⟩ := hx
    show (wayS S 1 (yd i) (yd a) = -1 ∧ dN S 1 (yd i) (yd a) = 99 ∧ (if dN S 1 (yd i) (yd a) ≤ 1 then 1 else 0) = 0) ∨ ∃ m, _ ∧ wayS S 1 (yd i) (yd a) = nI m ∧ dN S 1 (yd i) (yd a) = m ∧ (if dN S 1 (yd i) (yd a) ≤ 1 then 1 else 0) = _
    rcases wayS_in S 1 (yd i) (yd a) with h | ⟨m, h1, h2⟩
    · have e : dN S 1 (yd i) (yd a) = 99 := if_pos h
      exact Or.inl ⟨h, e, by rw [e]; rfl⟩
    · obtain ⟨q1, q2⟩ := way36 hB h36 ((hY.2.1 i hi).2.op 1) (hY.2.1 a ha1).2.1.1 h2 h1
      have hm : ¬ m = 0 := fun e => hY.ne hi ha1 (fun q => ha2 q.symm) (q2 e).symm
      have e : dN S 1 (yd i) (yd a) = m := by rw [dN, if_neg (by rw [h2, nI_em (by omega)]; exact id), h2, nI_clamp (by omega)]
      refine Or.inr ⟨m, ⟨by omega, q1⟩, h2, e, ?_⟩
      rw [e]
      by_cases e1 : m = 1
      · rw [if_pos (by omega), if_pos e1]
      · rw [if_neg (by omega), if_neg e1]
abbrev FP : List Nat := [13, 14, 15, 20, 21]
section Pl1
variable {G : Gam} {d n z lp N Z K tp cnt i : Nat} {f : Mf} {S : Sta} {L : Lw} {an pl py bs : Nat → Int32} {yd : Nat → Nat}
theorem t_plPayAt (hG : Ok G) (hd1 : 3 ≤ d) (hB : Bd S) (h36 : wdt S * hgt S ≤ 36) (hW : CW S L lp N Z K f n z) (hl : LwP f lp L) (h49 : 49 ≤ tp) (hn5 : tp + 5 ≤ n) (hsep : lp + 1 < tp ∨ tp + 4 < lp) (hP : PL f tp an pl (nI cnt) py bs) (hY : PlY S pl cnt yd) (hpy : PyOk S L cnt yd py) (hic : i < cnt) {a b : Option Nat} (ha : okO cnt i a) (hb : okO cnt i b) : Tr G d 54 [.ref tp, .int (nI i), .int (eO a), .int (eO b)] n z f (fun v n' z' f' => v = some (.int (nI (ppN S L (yd i) (a.map yd) (b.map yd)))) ∧ CW S L lp N Z K f' n' z' ∧ LwP f' lp L ∧ (∃ py', PL f' tp an pl (nI cnt) py' bs ∧ PyOk S L cnt yd py') ∧ FRB FP tp 5 f n f' ∧ n ≤ n') := by
  obtain ⟨g1, g2, w1, w2, w3, w4, w5⟩ := id hW.2.2.2.2.2.2
  obtain ⟨q1, q2, q3⟩ := id hW.2.2.1
  have hCAP : CAP = 600000 := rfl
  obtain ⟨bY, kn0, fk0, fa0, ne0, hk0⟩ := hW.kb
  unfold KV at hk0
  obtain ⟨p1, p2, p3, p4, p5⟩ := id hP
  obtain ⟨y1, y2, y3⟩ := id hY
  obtain ⟨ei, hgi⟩ := y2 i hic
  have hci : (nI i).toNatClampNeg = i := nI_clamp (by omega)
  have hii : vp_in (nI i) 36 := (vin_nI (by omega)).mpr (by omega)
  have hcy : ∀ j, j < cnt → (nI (yd j)).toNatClampNeg = yd j := fun j hj => nI_clamp (by have := (y2 j hj).2.1.1; omega)
  obtain ⟨sg, qq, v1, -⟩ := id w1
  refine Tr.of2 (ls0 := [.ref tp, .int (nI i), .int (eO a), .int (eO b), dead, dead, dead, dead, dead, dead, dead]) hG mo_X4_payAt (Nat.le_of_ble_eq_true rfl) rfl ?_
  intro X hi hd hXn hXz hXf hQ
  refine wp_sound (by rw [hi]; exact ok_X4_payAt) (hd := [16, 199]) 400 _ _ _ _ _ _ ?_
  simp (disch := omega) only [wp, stp, List.mem_cons, List.not_mem_nil, Nat.reduceEqDiff, or_false, or_self, false_or, or_true, true_or, Nat.reduceAdd, ↓reduceIte, List.getElem?_cons_zero, List.getElem?_cons_succ, nthV, List.set_cons_zero, List.set_cons_succ, noL, popA, catS, Value.category, List.length_cons, List.length_nil, Nat.reduceLT, Nat.reduceLeDiff, true_and, and_true, one0, zer1, imp_t, imp_f, ofN_nI, sdead, f20, f21, not_true_eq_false, upC_self, upC_ne, upC_upC, retC, fitC, isRefT, Option.toList_some, Option.toList_none, List.cons_append, List.nil_append, Nat.lt_add_one, Nat.zero_lt_succ, Nat.le_refl, Nat.add_zero, Nat.zero_add, Nat.one_ne_zero, Nat.zero_ne_one, Nat.lt_irrefl, List.length_set, fa_X4_payAt, hi, hd, hQ, mr_X4_payAt, p1, p3, hk0, v1, hci, ei]
  refine ⟨hii, by omega, _, t_from_12 hG (by omega) hB hW.1 hW.2.1 w1 q1 hgi.1.1 (hgi.op 1) (by omega) (by omega), ?_⟩
  intro v n1 z1 f1 hF
  obtain ⟨p, r, rfl, e2, e3, hW1, hF1, hn1⟩ := CW.from_12 hW w1 w2 w3 w4 w5 hF
  have hP1 := hP.frm hF1 h49 hn5
  obtain ⟨p1, p2, p3, p4, p5⟩ := id hP1
  have hl1 := hl.frm hF1 (by decide) (by obtain ⟨sp, m, st, kd, vl, l1, -⟩ := hW.2.2.2.1; exact l1.1) (by obtain ⟨sp, m, st, kd, vl, l1, -⟩ := hW.2.2.2.1; exact l1.2)
  have hFB : FRB FP tp 5 f n f1 := (hF1.b tp 5).mono (fun x hx => by simp at hx ⊢; omega)
  obtain ⟨α, hα⟩ : ∃ α, α = wyO S (yd i) (a.map yd) := ⟨_, rfl⟩
  obtain ⟨β, hβ⟩ : ∃ β, β = wyO S (yd i) (b.map yd) := ⟨_, rfl⟩
  have cα := wyO_in hB h36 hY hic ha
  have cβ := wyO_in hB h36 hY hic hb
  rw [← hα] at cα
  rw [← hβ] at cβ
  have o3 : tp + 3 < 1000000 := by clear cα cβ; omega
  have h153 : ∀ ne φ col fa, (φ = -1 ∧ fa = 99 ∨ φ = nI fa ∧ fa < 36) → ne ≤ 2 → col ≤ 36 → colF col = fa → colN col = ne → min (dO S (yd i) (a.map yd)) (dO S (yd i) (b.map yd)) = fa → nO S (yd i) (a.map yd) + nO S (yd i) (b.map yd) = ne → V G X 153 [.ref tp, .int (nI i), .int (eO a), .int (eO b), .ref p, .int α, .int β, .int (nI ne), .int φ, .int (nI col), .int (nI (37 * i + col))] [] n1 z1 f1 := by
    clear cα cβ
    intro ne φ col fa hφ hne hcol hcf hcn hmin hsum
    have hpp : ppN S L (yd i) (a.map yd) (b.map yd) = colV S L (yd i) col := by unfold ppN colV; rw [hmin, hsum, hcf, hcn]
    have hix : (nI (37 * i + col)).toNatClampNeg = 37 * i + col := nI_clamp (by omega)
    have hin : vp_in (nI (37 * i + col)) 1332 := (vin_nI (by omega)).mpr (by omega)
    obtain ⟨bY1, kn1, fk1, fa1, ne1, hk1⟩ := hW1.kb
    have hkv := hk1
    unfold KV at hk1
    have h193 : V G X 193 [.ref tp, .int (nI i), .int (eO a), .int (eO b), .ref p, .int α, .int β, .int (nI ne), .int φ, .int (nI col), .int (nI (37 * i + col))] [.int (nI fa), .int (nI (yd i)), .ref 20, .int (nI (37 * i + col)), .ref (tp + 3)] n1 z1 f1 := by
      obtain ⟨F, hF⟩ := hW1.2.2.2.2.1.2
      refine wp_sound (by rw [hi]; exact ok_X4_payAt) (hd := [16, 199]) 400 _ _ _ _ _ _ ?_
      simp (disch := omega) only [wp, stp, List.mem_cons, List.not_mem_nil, Nat.reduceEqDiff, or_false, or_self, false_or, or_true, true_or, Nat.reduceAdd, ↓reduceIte, List.getElem?_cons_zero, List.getElem?_cons_succ, nthV, List.set_cons_zero, List.set_cons_succ, noL, popA, catS, Value.category, List.length_cons, List.length_nil, Nat.reduceLT, Nat.reduceLeDiff, true_and, and_true, one0, zer1, imp_t, imp_f, ofN_nI, sdead, f20, f21, not_true_eq_false, upC_self, upC_ne, upC_upC, retC, fitC, isRefT, Option.toList_some, Option.toList_none, List.cons_append, List.nil_append, Nat.lt_add_one, Nat.zero_lt_succ, Nat.le_refl, Nat.add_zero, Nat.zero_add, Nat.one_ne_zero, Nat.zero_ne_one, Nat.lt_irrefl, List.length_set, fa_X4_payAt, hi, hd, hQ, mr_X4_payAt, hk1]
      refine ⟨by omega, _, t_payFor_20 hG (by omega) hB hW1.1 hW1.2.2.2.1 hkv hF hgi.1 (fa := fa) (ne := ne) (ki := 0) (by omega) (by omega) (by omega), ?_⟩
      rintro v n2 z2 f2 ⟨rfl, rfl, rfl, F', rfl⟩
      have hW2 := hW1.facts_20 F'
      have hl2 : LwP (upC f1 (20 + 1) (cI 8 F')) lp L := by
        unfold LwP at *
        have : ¬ lp = 20 + 1 := by obtain ⟨sp, m, st, kd, vl, l1, -⟩ := hW.2.2.2.1; omega
        rw [upC_ne _ _ this]; exact hl1
      have hP2 : PL (upC f1 (20 + 1) (cI 8 F')) tp an pl (nI cnt) py bs := hP1.cong (fun x h1 h2 => upC_ne _ _ (by omega))
      have ecv : payF S L (yd i) fa ne 0 = colV S L (yd i) col := by unfold colV; rw [hcf, hcn]
      have eup : upd py (37 * i + col) (nI (colV S L (yd i) col)) (37 * i + col) = nI (colV S L (yd i) col) := by rw [upd_ap, if_pos rfl]
      obtain ⟨r1, r2, r3, r4, r5⟩ := id hP2
      refine wp_sound (by rw [hi]; exact ok_X4_payAt) (hd := [16, 199]) 400 _ _ _ _ _ _ ?_
      simp (disch := omega) only [wp, stp, List.mem_cons, List.not_mem_nil, Nat.reduceEqDiff, or_false, or_self, false_or, or_true, true_or, Nat.reduceAdd, ↓reduceIte, List.getElem?_cons_zero, List.getElem?_cons_succ, nthV, List.set_cons_zero, List.set_cons_succ, noL, popA, catS, Value.category, List.length_cons, List.length_nil, Nat.reduceLT, Nat.reduceLeDiff, true_and, and_true, one0, zer1, imp_t, imp_f, ofN_nI, sdead, f20, f21, not_true_eq_false, upC_self, upC_ne, upC_upC, retC, fitC, isRefT, Option.toList_some, Option.toList_none, List.cons_append, List.nil_append, Nat.lt_add_one, Nat.zero_lt_succ, Nat.le_refl, Nat.add_zero, Nat.zero_add, Nat.one_ne_zero, Nat.zero_ne_one, Nat.lt_irrefl, List.length_set, fa_X4_payAt, hi, hd, hQ, mr_X4_payAt, p1, p4, hix, ecv, eup]
      refine ⟨o3, hin, hin, by rw [hpp], hW2.hi hl2 (by omega) (by omega) (hP2.row (by omega) (by omega)) (by omega) (by omega), ?_, ⟨_, ⟨?_, ?_, ?_, upC_self _ _ _, ?_⟩, hpy.up hcol⟩, (hFB.up (by omega) (by simp)).bl h49 (by omega) (by omega), by omega⟩
      · unfold LwP at *; rw [upC_ne _ _ (by omega)]; exact hl2
      · rw [upC_ne _ _ (by omega)]; exact r1
      · rw [upC_ne _ _ (by omega)]; exact r2
      · rw [upC_ne _ _ (by omega)]; exact r3
      · rw [upC_ne _ _ (by omega)]; exact r5
    refine wp_sound (by rw [hi]; exact ok_X4_payAt) (hd := [16, 193, 199]) 400 _ _ _ _ _ _ ?_
    simp (disch := omega) only [wp, stp, List.mem_cons, List.not_mem_nil, Nat.reduceEqDiff, or_false, or_self, false_or, or_true, true_or, Nat.reduceAdd, ↓reduceIte, List.getElem?_cons_zero, List.getElem?_cons_succ, nthV, List.set_cons_zero, List.set_cons_succ, noL, popA, catS, Value.category, List.length_cons, List.length_nil, Nat.reduceLT, Nat.reduceLeDiff, true_and, and_true, one0, zer1, imp_t, imp_f, ofN_nI, sdead, f20, f21, not_true_eq_false, upC_self, upC_ne, upC_upC, retC, fitC, isRefT, Option.toList_some, Option.toList_none, List.cons_append, List.nil_append, Nat.lt_add_one, Nat.zero_lt_succ, Nat.le_refl, Nat.add_zero, Nat.zero_add, Nat.one_ne_zero, Nat.zero_ne_one, Nat.lt_irrefl, List.length_set, fa_X4_payAt, hi, hd, hQ, mr_X4_payAt, p1, p3, p4, hix, hk1, hci, ei]
    refine ⟨hin, fun hne1 => ⟨hin, ?_, hW1, hl1, ⟨py, hP1, hpy⟩, hFB, hn1⟩, fun he1 => ?_⟩
    · rcases hpy i col hic hcol with q | q
      · exact absurd q hne1
      · rw [q, hpp]
    · rcases hφ with ⟨rfl, rfl⟩ | ⟨rfl, hfa⟩
      · exact ⟨hii, fun h => absurd rfl h, fun _ => h193⟩
      · exact ⟨hii, fun _ => h193, fun h => absurd h (by rw [nI_em (by omega)]; exact id)⟩
  have h142 : ∀ ne φ col fa u9 u10, (φ = -1 ∧ fa = 99 ∨ φ = nI fa ∧ fa < 36) → ne ≤ 2 → col ≤ 36 → colF col = fa → colN col = ne → min (dO S (yd i) (a.map yd)) (dO S (yd i) (b.map yd)) = fa → nO S (yd i) (a.map yd) + nO S (yd i) (b.map yd) = ne → V G X 142 [.ref tp, .int (nI i), .int (eO a), .int (eO b), .ref p, .int α, .int β, .int (nI ne), .int φ, u9, u10] [.int (nI col)] n1 z1 f1 := by
    intro ne φ col fa u9 u10 q1 q2 q3 q4 q5 q6 q7
    refine wp_sound (by rw [hi]; exact ok_X4_payAt) (hd := [16, 153, 199]) 400 _ _ _ _ _ _ ?_
    simp only [wp, stp, List.mem_cons, List.not_mem_nil, Nat.reduceEqDiff, or_false, or_self, false_or, or_true, true_or, Nat.reduceAdd, ↓reduceIte, List.getElem?_cons_zero, List.getElem?_cons_succ, nthV, List.set_cons_zero, List.set_cons_succ, noL, popA, catS, Value.category, List.length_cons, List.length_nil, Nat.reduceLT, Nat.reduceLeDiff, true_and, and_true, one0, zer1, imp_t, imp_f, ofN_nI, sdead, f20, f21, not_true_eq_false, upC_ap, upC_upC, retC, fitC, isRefT, Option.toList_some, Option.toList_none, List.cons_append, List.nil_append, Nat.lt_add_one, Nat.zero_lt_succ, Nat.le_refl, Nat.add_zero, Nat.zero_add, Nat.one_ne_zero, Nat.zero_ne_one, Nat.lt_irrefl, List.length_set, fa_X4_payAt, hi, hd, hQ, mr_X4_payAt]
    try simp only [m1f]
    try simp (disch := omega) only [nmod, nI_leI, nI_ltI, nI_eq, nI_clamp, vin_nI, nI_1, fa_lit, nI_add, nI_rm3, nI_rm2, pk_rem, pk_mul, pk_sub, pk_div, nI_eM, nI_Me, nI_pM, nI_pMz, nI_pM0, M1_lt, M1_le, nI_ltM, nI_leM, i8_nI, true_and, and_true, false_implies, true_implies, not_false_eq_true, not_true_eq_false, ne_eq, implies_true, Nat.not_lt_zero, Nat.zero_le, ite_min, max0, Nat.reduceLT, Nat.reduceLeDiff, Nat.reduceEqDiff, Nat.reduceAdd, Nat.reduceMul]
    try simp only [m1u]
    exact h153 ne φ col fa q1 q2 q3 q4 q5 q6 q7
  have h58 : ∀ u7 u8 u9 u10, V G X 58 [.ref tp, .int (nI i), .int (eO a), .int (eO b), .ref p, .int α, .int β, u7, u8, u9, u10] [] n1 z1 f1 := by
    intro u7 u8 u9 u10
    rcases cα with ⟨rfl, a2, a3⟩ | ⟨ma, ⟨a0, a1⟩, rfl, a2, a3⟩ <;> rcases cβ with ⟨rfl, b2, b3⟩ | ⟨mb, ⟨b0, b1⟩, rfl, b2, b3⟩ <;> rw [a2, b2] at h142 <;> rw [a3, b3] at h142
    · refine wp_sound (by rw [hi]; exact ok_X4_payAt) (hd := [16, 142, 199]) 400 _ _ _ _ _ _ ?_
      simp only [wp, stp, List.mem_cons, List.not_mem_nil, Nat.reduceEqDiff, or_false, or_self, false_or, or_true, true_or, Nat.reduceAdd, ↓reduceIte, List.getElem?_cons_zero, List.getElem?_cons_succ, nthV, List.set_cons_zero, List.set_cons_succ, noL, popA, catS, Value.category, List.length_cons, List.length_nil, Nat.reduceLT, Nat.reduceLeDiff, true_and, and_true, one0, zer1, imp_t, imp_f, ofN_nI, sdead, f20, f21, not_true_eq_false, upC_ap, upC_upC, retC, fitC, isRefT, Option.toList_some, Option.toList_none, List.cons_append, List.nil_append, Nat.lt_add_one, Nat.zero_lt_succ, Nat.le_refl, Nat.add_zero, Nat.zero_add, Nat.one_ne_zero, Nat.zero_ne_one, Nat.lt_irrefl, List.length_set, fa_X4_payAt, hi, hd, hQ, mr_X4_payAt]
      try simp only [m1f]
      try simp (disch := omega) only [nmod, nI_leI, nI_ltI, nI_eq, nI_clamp, vin_nI, nI_1, fa_lit, nI_add, nI_rm3, nI_rm2, pk_rem, pk_mul, pk_sub, pk_div, nI_eM, nI_Me, nI_pM, nI_pMz, nI_pM0, M1_lt, M1_le, nI_ltM, nI_leM, i8_nI, true_and, and_true, false_implies, true_implies, not_false_eq_true, not_true_eq_false, ne_eq, implies_true, Nat.not_lt_zero, Nat.zero_le, ite_min, max0, Nat.reduceLT, Nat.reduceLeDiff, Nat.reduceEqDiff, Nat.reduceAdd, Nat.reduceMul]
      try simp only [m1u]
      exact h142 0 _ 36 99 _ _ (Or.inl ⟨rfl, rfl⟩) (by omega) (by omega) rfl rfl rfl rfl
    · refine wp_sound (by rw [hi]; exact ok_X4_payAt) (hd := [16, 142, 199]) 400 _ _ _ _ _ _ ?_
      simp only [wp, stp, List.mem_cons, List.not_mem_nil, Nat.reduceEqDiff, or_false, or_self, false_or, or_true, true_or, Nat.reduceAdd, ↓reduceIte, List.getElem?_cons_zero, List.getElem?_cons_succ, nthV, List.set_cons_zero, List.set_cons_succ, noL, popA, catS, Value.category, List.length_cons, List.length_nil, Nat.reduceLT, Nat.reduceLeDiff, true_and, and_true, one0, zer1, imp_t, imp_f, ofN_nI, sdead, f20, f21, not_true_eq_false, upC_ap, upC_upC, retC, fitC, isRefT, Option.toList_some, Option.toList_none, List.cons_append, List.nil_append, Nat.lt_add_one, Nat.zero_lt_succ, Nat.le_refl, Nat.add_zero, Nat.zero_add, Nat.one_ne_zero, Nat.zero_ne_one, Nat.lt_irrefl, List.length_set, fa_X4_payAt, hi, hd, hQ, mr_X4_payAt]
      try simp only [m1f]
      try simp (disch := omega) only [nmod, nI_leI, nI_ltI, nI_eq, nI_clamp, vin_nI, nI_1, fa_lit, nI_add, nI_rm3, nI_rm2, pk_rem, pk_mul, pk_sub, pk_div, nI_eM, nI_Me, nI_pM, nI_pMz, nI_pM0, M1_lt, M1_le, nI_ltM, nI_leM, i8_nI, true_and, and_true, false_implies, true_implies, not_false_eq_true, not_true_eq_false, ne_eq, implies_true, Nat.not_lt_zero, Nat.zero_le, ite_min, max0, Nat.reduceLT, Nat.reduceLeDiff, Nat.reduceEqDiff, Nat.reduceAdd, Nat.reduceMul]
      try simp only [m1u]
      refine ⟨fun hm => ⟨by omega, h142 0 _ (min mb 36) mb _ _ (Or.inr ⟨rfl, by omega⟩) (by omega) (by omega) ?_ ?_ (by omega) (by rw [if_neg hm])⟩, fun hm => ⟨by omega, h142 1 _ (min mb 36) mb _ _ (Or.inr ⟨rfl, by omega⟩) (by omega) (by omega) ?_ ?_ (by omega) (by rw [if_pos hm])⟩⟩
      · unfold colF; (repeat' split) <;> omega
      · unfold colN; (repeat' split) <;> omega
      · unfold colF; (repeat' split) <;> omega
      · unfold colN; (repeat' split) <;> omega
    · refine wp_sound (by rw [hi]; exact ok_X4_payAt) (hd := [16, 142, 199]) 400 _ _ _ _ _ _ ?_
      simp only [wp, stp, List.mem_cons, List.not_mem_nil, Nat.reduceEqDiff, or_false, or_self, false_or, or_true, true_or, Nat.reduceAdd, ↓reduceIte, List.getElem?_cons_zero, List.getElem?_cons_succ, nthV, List.set_cons_zero, List.set_cons_succ, noL, popA, catS, Value.category, List.length_cons, List.length_nil, Nat.reduceLT, Nat.reduceLeDiff, true_and, and_true, one0, zer1, imp_t, imp_f, ofN_nI, sdead, f20, f21, not_true_eq_false, upC_ap, upC_upC, retC, fitC, isRefT, Option.toList_some, Option.toList_none, List.cons_append, List.nil_append, Nat.lt_add_one, Nat.zero_lt_succ, Nat.le_refl, Nat.add_zero, Nat.zero_add, Nat.one_ne_zero, Nat.zero_ne_one, Nat.lt_irrefl, List.length_set, fa_X4_payAt, hi, hd, hQ, mr_X4_payAt]
      try simp only [m1f]
      try simp (disch := omega) only [nmod, nI_leI, nI_ltI, nI_eq, nI_clamp, vin_nI, nI_1, fa_lit, nI_add, nI_rm3, nI_rm2, pk_rem, pk_mul, pk_sub, pk_div, nI_eM, nI_Me, nI_pM, nI_pMz, nI_pM0, M1_lt, M1_le, nI_ltM, nI_leM, i8_nI, true_and, and_true, false_implies, true_implies, not_false_eq_true, not_true_eq_false, ne_eq, implies_true, Nat.not_lt_zero, Nat.zero_le, ite_min, max0, Nat.reduceLT, Nat.reduceLeDiff, Nat.reduceEqDiff, Nat.reduceAdd, Nat.reduceMul]
      try simp only [m1u]
      refine ⟨fun hm => ⟨by omega, h142 0 _ (min ma 36) ma _ _ (Or.inr ⟨rfl, by omega⟩) (by omega) (by omega) ?_ ?_ (by omega) (by rw [if_neg hm])⟩, fun hm => ⟨by omega, h142 1 _ (min ma 36) ma _ _ (Or.inr ⟨rfl, by omega⟩) (by omega) (by omega) ?_ ?_ (by omega) (by rw [if_pos hm])⟩⟩
      · unfold colF; (repeat' split) <;> omega
      · unfold colN; (repeat' split) <;> omega
      · unfold colF; (repeat' split) <;> omega
      · unfold colN; (repeat' split) <;> omega
    · refine wp_sound (by rw [hi]; exact ok_X4_payAt) (hd := [16, 142, 199]) 400 _ _ _ _ _ _ ?_
      simp only [wp, stp, List.mem_cons, List.not_mem_nil, Nat.reduceEqDiff, or_false, or_self, false_or, or_true, true_or, Nat.reduceAdd, ↓reduceIte, List.getElem?_cons_zero, List.getElem?_cons_succ, nthV, List.set_cons_zero, List.set_cons_succ, noL, popA, catS, Value.category, List.length_cons, List.length_nil, Nat.reduceLT, Nat.reduceLeDiff, true_and, and_true, one0, zer1, imp_t, imp_f, ofN_nI, sdead, f20, f21, not_true_eq_false, upC_ap, upC_upC, retC, fitC, isRefT, Option.toList_some, Option.toList_none, List.cons_append, List.nil_append, Nat.lt_add_one, Nat.zero_lt_succ, Nat.le_refl, Nat.add_zero, Nat.zero_add, Nat.one_ne_zero, Nat.zero_ne_one, Nat.lt_irrefl, List.length_set, fa_X4_payAt, hi, hd, hQ, mr_X4_payAt]
      try simp only [m1f]
      try simp (disch := omega) only [nmod, nI_leI, nI_ltI, nI_eq, nI_clamp, vin_nI, nI_1, fa_lit, nI_add, nI_rm3, nI_rm2, pk_rem, pk_mul, pk_sub, pk_div, nI_eM, nI_Me, nI_pM, nI_pMz, nI_pM0, M1_lt, M1_le, nI_ltM, nI_leM, i8_nI, true_and, and_true, false_implies, true_implies, not_false_eq_true, not_true_eq_false, ne_eq, implies_true, Nat.not_lt_zero, Nat.zero_le, ite_min, max0, Nat.reduceLT, Nat.reduceLeDiff, Nat.reduceEqDiff, Nat.reduceAdd, Nat.reduceMul]
      try simp only [m1u]
      refine ⟨fun hm => ⟨fun hm2 => ⟨by omega, by omega, h142 0 _ (min (min ma mb) 36) (min ma mb) _ _ (Or.inr ⟨rfl, by omega⟩) (by omega) (by omega) ?_ ?_ (by omega) (by rw [if_neg hm, if_neg hm2])⟩, fun hm2 => ⟨by omega, by omega, h142 1 _ (min (min ma mb) 36) (min ma mb) _ _ (Or.inr ⟨rfl, by omega⟩) (by omega) (by omega) ?_ ?_ (by omega) (by rw [if_neg hm, if_pos hm2])⟩⟩, fun hm => ⟨fun hm2 => ⟨by omega, by omega, h142 1 _ (min (min ma mb) 36) (min ma mb) _ _ (Or.inr ⟨rfl, by omega⟩) (by omega) (by omega) ?_ ?_ (by omega) (by rw [if_pos hm, if_neg hm2])⟩, fun hm2 => ⟨by omega, h142 2 _ 0 (min ma mb) _ _ (Or.inr ⟨rfl, by omega⟩) (by omega) (by omega) ?_ ?_ (by omega) (by rw [if_pos hm, if_pos hm2])⟩⟩⟩
      · unfold colF; (repeat' split) <;> omega
      · unfold colN; (repeat' split) <;> omega
      · unfold colF; (repeat' split) <;> omega
      · unfold colN; (repeat' split) <;> omega
      · unfold colF; (repeat' split) <;> omega
      · unfold colN; (repeat' split) <;> omega
      · unfold colF; (repeat' split) <;> omega
      · unfold colN; (repeat' split) <;> omega
  have h36 : ∀ u5 u6 u7 u8 u9 u10, V G X 36 [.ref tp, .int (nI i), .int (eO a), .int (eO b), .ref p, u5, u6, u7, u8, u9, u10] [.int α] n1 z1 f1 := by
    intro u5 u6 u7 u8 u9 u10
    have h56 : ∀ u6 u7 u8 u9 u10, V G X 56 [.ref tp, .int (nI i), .int (eO a), .int (eO b), .ref p, .int α, u6, u7, u8, u9, u10] [.int β] n1 z1 f1 := by
      intro u6 u7 u8 u9 u10
      refine wp_sound (by rw [hi]; exact ok_X4_payAt) (hd := [16, 58, 199]) 400 _ _ _ _ _ _ ?_
      simp only [wp, stp, List.mem_cons, List.not_mem_nil, Nat.reduceEqDiff, or_false, or_self, false_or, or_true, true_or, Nat.reduceAdd, ↓reduceIte, List.getElem?_cons_zero, List.getElem?_cons_succ, nthV, List.set_cons_zero, List.set_cons_succ, noL, popA, catS, Value.category, List.length_cons, List.length_nil, Nat.reduceLT, Nat.reduceLeDiff, true_and, and_true, one0, zer1, imp_t, imp_f, ofN_nI, sdead, f20, f21, not_true_eq_false, upC_ap, upC_upC, retC, fitC, isRefT, Option.toList_some, Option.toList_none, List.cons_append, List.nil_append, Nat.lt_add_one, Nat.zero_lt_succ, Nat.le_refl, Nat.add_zero, Nat.zero_add, Nat.one_ne_zero, Nat.zero_ne_one, Nat.lt_irrefl, List.length_set, fa_X4_payAt, hi, hd, hQ, mr_X4_payAt]
      exact h58 _ _ _ _
    cases b with
    | none =>
      refine wp_sound (by rw [hi]; exact ok_X4_payAt) (hd := [16, 56, 199]) 400 _ _ _ _ _ _ ?_
      simp only [wp, stp, List.mem_cons, List.not_mem_nil, Nat.reduceEqDiff, or_false, or_self, false_or, or_true, true_or, Nat.reduceAdd, ↓reduceIte, List.getElem?_cons_zero, List.getElem?_cons_succ, nthV, List.set_cons_zero, List.set_cons_succ, noL, popA, catS, Value.category, List.length_cons, List.length_nil, Nat.reduceLT, Nat.reduceLeDiff, true_and, and_true, one0, zer1, imp_t, imp_f, ofN_nI, sdead, f20, f21, not_true_eq_false, upC_ap, upC_upC, retC, fitC, isRefT, Option.toList_some, Option.toList_none, List.cons_append, List.nil_append, Nat.lt_add_one, Nat.zero_lt_succ, Nat.le_refl, Nat.add_zero, Nat.zero_add, Nat.one_ne_zero, Nat.zero_ne_one, Nat.lt_irrefl, List.length_set, fa_X4_payAt, hi, hd, hQ, mr_X4_payAt]
      refine ⟨fun h => absurd rfl h, fun _ => ?_⟩
      have : β = -1 := hβ
      rw [this] at h56
      exact h56 _ _ _ _ _
    | some b' =>
      obtain ⟨hb1, hb2⟩ := hb
      obtain ⟨eb, hgb⟩ := y2 b' hb1
      have hcb : (nI b').toNatClampNeg = b' := nI_clamp (by omega)
      have eβ : β = r (yd b') := by rw [e3 _ hgb.1.1, hβ]; rfl
      rw [show eO (some b') = nI b' from rfl] at h56 ⊢
      refine wp_sound (by rw [hi]; exact ok_X4_payAt) (hd := [16, 56, 199]) 400 _ _ _ _ _ _ ?_
      simp only [wp, stp, List.mem_cons, List.not_mem_nil, Nat.reduceEqDiff, or_false, or_self, false_or, or_true, true_or, Nat.reduceAdd, ↓reduceIte, List.getElem?_cons_zero, List.getElem?_cons_succ, nthV, List.set_cons_zero, List.set_cons_succ, noL, popA, catS, Value.category, List.length_cons, List.length_nil, Nat.reduceLT, Nat.reduceLeDiff, true_and, and_true, one0, zer1, imp_t, imp_f, ofN_nI, sdead, f20, f21, not_true_eq_false, upC_ap, upC_upC, retC, fitC, isRefT, Option.toList_some, Option.toList_none, List.cons_append, List.nil_append, Nat.lt_add_one, Nat.zero_lt_succ, Nat.le_refl, Nat.add_zero, Nat.zero_add, Nat.one_ne_zero, Nat.zero_ne_one, Nat.lt_irrefl, List.length_set, fa_X4_payAt, hi, hd, hQ, mr_X4_payAt, p1, p3, hcb, eb, e2, hcy b' hb1]
      rw [← eβ]
      exact ⟨fun _ => ⟨(vin_nI (by omega)).mpr (by omega), (vin_nI (by have := hgb.1.1; omega)).mpr hgb.1.1, h56 _ _ _ _ _⟩, fun h => absurd h (by rw [nI_em (by omega)]; exact id)⟩
  cases a with
  | none =>
    refine wp_sound (by rw [hi]; exact ok_X4_payAt) (hd := [16, 36, 199]) 400 _ _ _ _ _ _ ?_
    simp only [wp, stp, List.mem_cons, List.not_mem_nil, Nat.reduceEqDiff, or_false, or_self, false_or, or_true, true_or, Nat.reduceAdd, ↓reduceIte, List.getElem?_cons_zero, List.getElem?_cons_succ, nthV, List.set_cons_zero, List.set_cons_succ, noL, popA, catS, Value.category, List.length_cons, List.length_nil, Nat.reduceLT, Nat.reduceLeDiff, true_and, and_true, one0, zer1, imp_t, imp_f, ofN_nI, sdead, f20, f21, not_true_eq_false, upC_ap, upC_upC, retC, fitC, isRefT, Option.toList_some, Option.toList_none, List.cons_append, List.nil_append, Nat.lt_add_one, Nat.zero_lt_succ, Nat.le_refl, Nat.add_zero, Nat.zero_add, Nat.one_ne_zero, Nat.zero_ne_one, Nat.lt_irrefl, List.length_set, fa_X4_payAt, hi, hd, hQ, mr_X4_payAt]
    refine ⟨fun h => absurd rfl h, fun _ => ?_⟩
    have : α = -1 := hα
    rw [this] at h36
    exact h36 _ _ _ _ _ _
  | some a' =>
    obtain ⟨ha1, ha2⟩ := ha
    obtain ⟨ea, hga⟩ := y2 a' ha1
    have hca : (nI a').toNatClampNeg = a' := nI_clamp (by omega)
    have eα : α = r (yd a') := by rw [e3 _ hga.1.1, hα]; rfl
    rw [show eO (some a') = nI a' from rfl] at h36 ⊢
    refine wp_sound (by rw [hi]; exact ok_X4_payAt) (hd := [16, 36, 199]) 400 _ _ _ _ _ _ ?_
    simp only [wp, stp, List.mem_cons, List.not_mem_nil, Nat.reduceEqDiff, or_false, or_self, false_or, or_true, true_or, Nat.reduceAdd, ↓reduceIte, List.getElem?_cons_zero, List.getElem?_cons_succ, nthV, List.set_cons_zero, List.set_cons_succ, noL, popA, catS, Value.category, List.length_cons, List.length_nil, Nat.reduceLT, Nat.reduceLeDiff, true_and, and_true, one0, zer1, imp_t, imp_f, ofN_nI, sdead, f20, f21, not_true_eq_false, upC_ap, upC_upC, retC, fitC, isRefT, Option.toList_some, Option.toList_none, List.cons_append, List.nil_append, Nat.lt_add_one, Nat.zero_lt_succ, Nat.le_refl, Nat.add_zero, Nat.zero_add, Nat.one_ne_zero, Nat.zero_ne_one, Nat.lt_irrefl, List.length_set, fa_X4_payAt, hi, hd, hQ, mr_X4_payAt, p1, p3, hca, ea, e2, hcy a' ha1]
    rw [← eα]
    exact ⟨fun _ => ⟨(vin_nI (by omega)).mpr (by omega), (vin_nI (by have := hga.1.1; omega)).mpr hga.1.1, h36 _ _ _ _ _ _⟩, fun h => absurd h (by rw [nI_em (by omega)]; exact id)⟩
end Pl1
