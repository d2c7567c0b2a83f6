-- Placings: the best pay by two others; one placing judged
set_option maxRecDepth 100000
set_option maxHeartbeats 4000000
def ixO : Option Nat → Nat
  | none => 0
  | some a => a + 1
def inO (cnt : Nat) : Option Nat → Prop
  | none => True
  | some a => a < cnt
noncomputable def bstF (S : Sta) (L : Lw) (yd : Nat → Nat) (a b : Option Nat) (p : Nat) : Nat := if some p = a ∨ some p = b then 0 else ppN S L (yd p) (a.map yd) (b.map yd)
noncomputable def bestN (S : Sta) (L : Lw) (cnt : Nat) (yd : Nat → Nat) (a b : Option Nat) : Nat := mxF (bstF S L yd a b) cnt
theorem bstF_le (S : Sta) (L : Lw) (yd : Nat → Nat) (a b : Option Nat) (p : Nat) : bstF S L yd a b p ≤ 9999 := by
  unfold bstF; split
  · omega
  · exact ppN_le _ _ _ _ _
theorem bestN_le (S : Sta) (L : Lw) (cnt : Nat) (yd : Nat → Nat) (a b : Option Nat) : bestN S L cnt yd a b ≤ 9999 := mxF_le (bstF_le S L yd a b) cnt
def BsOk (S : Sta) (L : Lw) (cnt : Nat) (yd : Nat → Nat) (bs : Nat → Int32) : Prop := ∀ a b, inO cnt a → inO cnt b → bs (37 * ixO a + ixO b) = -1 ∨ bs (37 * ixO a + ixO b) = nI (bestN S L cnt yd a b)
theorem ixO_le {cnt : Nat} {a : Option Nat} (h : inO cnt a) (hc : cnt ≤ 36) : ixO a ≤ 36 := by
  cases a with
  | none => exact Nat.zero_le _
  | some a => have h : a < cnt := h; show a + 1 ≤ 36; omega
theorem ixO_inj {a b : Option Nat} (h : ixO a = ixO b) : a = b := by
  cases a <;> cases b
  · rfl
  · cases h
  · cases h
  · have h : _ + 1 = _ + 1 := h
    congr 1; omega
theorem BsOk.up {S : Sta} {L : Lw} {cnt : Nat} {yd : Nat → Nat} {bs : Nat → Int32} (h : BsOk S L cnt yd bs) (hc : cnt ≤ 36) {a b : Option Nat} (ha : inO cnt a) (hb : inO cnt b) : BsOk S L cnt yd (upd bs (37 * ixO a + ixO b) (nI (bestN S L cnt yd a b))) := fun a' b' ha' hb' => by
  rw [upd_ap]
  have h1 := ixO_le ha hc
  have h2 := ixO_le hb hc
  have h3 := ixO_le ha' hc
  have h4 := ixO_le hb' hc
  by_cases e : 37 * ixO a' + ixO b' = 37 * ixO a + ixO b
  · rw [if_pos e]
    have e1 : a' = a := ixO_inj (by omega)
    have e2 : b' = b := ixO_inj (by omega)
    subst e1; subst e2
    exact Or.inr rfl
  · rw [if_neg e]; exact h a' b' ha' hb'
theorem eO_p1 {cnt : Nat} {a : Option Nat} (h : inO cnt a) (hc : cnt ≤ 36) : eO a + 1 = nI (ixO a) := by
  cases a with
  | none => rfl
  | some a => exact nI_1 a
theorem eO_eq {cnt p : Nat} {a : Option Nat} (h : inO cnt a) (hc : cnt ≤ 36) (hp : p < cnt) : nI p = eO a ↔ some p = a := by
  cases a with
  | none => exact ⟨fun q => absurd ((nI_em (a := p) (by omega)).mp q) id, fun q => by cases q⟩
  | some a =>
    have h : a < cnt := h
    show nI p = nI a ↔ _
    rw [nI_eq (by omega) (by omega)]
    exact ⟨fun q => by rw [q], fun q => by cases q; rfl⟩
/-- the world of the placings -/
def PWd (S : Sta) (L : Lw) (lp N Z K tp cnt : Nat) (yd : Nat → Nat) (an pl : Nat → Int32) (f : Mf) (n z : Nat) : Prop :=
  (CW S L lp N Z K f n z ∧ LwP f lp L) ∧ ∃ py bs, PL f tp an pl (nI cnt) py bs ∧ PyOk S L cnt yd py ∧ BsOk S L cnt yd bs
def ntR (an : Nat → Int32) (k : Nat) (r0 r1 r2 : Int32) : Nat → Int32 := upd (upd (upd an (k + 1) r0) (k + 2) r1) (k + 3) r2
section Pl2
variable {G : Gam} {d n z lp N Z K tp cnt : Nat} {f : Mf} {S : Sta} {L : Lw} {an pl : Nat → Int32} {yd : Nat → Nat}
theorem t_bestBy (hG : Ok G) (hd1 : 4 ≤ d) (hB : Bd S) (h36 : wdt S * hgt S ≤ 36) (h49 : 49 ≤ tp) (hn5 : tp + 5 ≤ n) (hsep : lp + 1 < tp ∨ tp + 4 < lp) (hY : PlY S pl cnt yd) (hP : PWd S L lp N Z K tp cnt yd an pl f n z) {a b : Option Nat} (ha : inO cnt a) (hb : inO cnt b) : Tr G d 53 [.ref tp, .int (eO a), .int (eO b)] n z f (fun v n' z' f' => v = some (.int (nI (bestN S L cnt yd a b))) ∧ PWd S L lp N Z K tp cnt yd an pl f' n' z' ∧ FRB FP tp 5 f n f' ∧ n ≤ n') := by
  have hc36 := hY.1
  have hCAP : CAP = 600000 := rfl
  have hxa := ixO_le ha hc36
  have hxb := ixO_le hb hc36
  have hea := eO_p1 ha hc36
  have heb := eO_p1 hb hc36
  obtain ⟨IX, hIX⟩ : ∃ IX, IX = 37 * ixO a + ixO b := ⟨_, rfl⟩
  have hix : (nI IX).toNatClampNeg = IX := nI_clamp (by omega)
  have hin : vp_in (nI IX) 1369 := (vin_nI (by omega)).mpr (by omega)
  have hidx : 37 * (eO a + 1) + eO b + 1 = nI IX := by
    rw [hea, show (37 : Int32) = nI 37 from rfl, pk_mul, Int32.add_assoc, heb, nI_add, hIX]
  have hnle : n ≤ 600000 := by have := hP.1.1.2.2.1; obtain ⟨g1, g2, -, -, -, w4, -⟩ := hP.1.1.2.2.2.2.2.2; omega
  refine Tr.of2 (ls0 := [.ref tp, .int (eO a), .int (eO b), dead, dead, dead]) hG mo_X4_bestBy (Nat.le_of_ble_eq_true rfl) rfl ?_
  intro X hi hd hXn hXz hXf hQ
  have h77 : ∀ n' z' g u4 u5, PWd S L lp N Z K tp cnt yd an pl g n' z' → FRB FP tp 5 f n g → n ≤ n' → (∀ py bs, PL g tp an pl (nI cnt) py bs → bs IX = nI (bestN S L cnt yd a b)) → V G X 77 [.ref tp, .int (eO a), .int (eO b), .int (nI IX), u4, u5] [] n' z' g := by
    intro n' z' g u4 u5 hP' hF' hn' hv
    obtain ⟨-, py, bs, hPL, -, -⟩ := id hP'
    have e := hv py bs hPL
    obtain ⟨p1, p2, p3, p4, p5⟩ := id hPL
    refine wp_sound (by rw [hi]; exact ok_X4_bestBy) (hd := [27, 58]) 400 _ _ _ _ _ _ ?_
    simp (disch := omega) only [wp, stp, List.mem_cons, List.not_mem_nil, Nat.reduceEqDiff, or_false, or_self, false_or, or_true, true_or, Nat.reduceAdd, ↓reduceIte, List.getElem?_cons_zero, List.getElem?_cons_succ, nthV, List.set_cons_zero, List.set_cons_succ, noL, popA, catS, Value.category, List.length_cons, List.length_nil, Nat.reduceLT, Nat.reduceLeDiff, true_and, and_true, one0, zer1, imp_t, imp_f, ofN_nI, sdead, f20, f21, not_true_eq_false, upC_self, upC_ne, upC_upC, retC, fitC, isRefT, Option.toList_some, Option.toList_none, List.cons_append, List.nil_append, Nat.lt_add_one, Nat.zero_lt_succ, Nat.le_refl, Nat.add_zero, Nat.zero_add, Nat.one_ne_zero, Nat.zero_ne_one, Nat.lt_irrefl, List.length_set, fa_X4_bestBy, hi, hd, hQ, mr_X4_bestBy, p1, p5, hix, e]
    exact ⟨hin, hP', hF', hn'⟩
  have loop : ∀ k' k n' z' g, k + k' = cnt → PWd S L lp N Z K tp cnt yd an pl g n' z' → FRB FP tp 5 f n g → n ≤ n' → V G X 27 [.ref tp, .int (eO a), .int (eO b), .int (nI IX), .int (nI (mxF (bstF S L yd a b) k)), .int (nI k)] [] n' z' g := by
    intro k'
    induction k' with
    | zero =>
      intro k n' z' g hk hP' hF' hn'
      have : k = cnt := by omega
      subst this
      obtain ⟨⟨hW', hl'⟩, py, bs, hPL, hpy, hbs⟩ := id hP'
      obtain ⟨p1, p2, p3, p4, p5⟩ := id hPL
      refine wp_sound (by rw [hi]; exact ok_X4_bestBy) (hd := [27, 58, 77]) 400 _ _ _ _ _ _ ?_
      simp (disch := omega) only [wp, stp, List.mem_cons, List.not_mem_nil, Nat.reduceEqDiff, or_false, or_self, false_or, or_true, true_or, Nat.reduceAdd, ↓reduceIte, List.getElem?_cons_zero, List.getElem?_cons_succ, nthV, List.set_cons_zero, List.set_cons_succ, noL, popA, catS, Value.category, List.length_cons, List.length_nil, Nat.reduceLT, Nat.reduceLeDiff, true_and, and_true, one0, zer1, imp_t, imp_f, ofN_nI, sdead, f20, f21, not_true_eq_false, upC_self, upC_ne, upC_upC, retC, fitC, isRefT, Option.toList_some, Option.toList_none, List.cons_append, List.nil_append, Nat.lt_add_one, Nat.zero_lt_succ, Nat.le_refl, Nat.add_zero, Nat.zero_add, Nat.one_ne_zero, Nat.zero_ne_one, Nat.lt_irrefl, List.length_set, fa_X4_bestBy, hi, hd, hQ, mr_X4_bestBy, p1, p5, hix]
      have o4 : tp + 4 < 1000000 := by omega
      refine ⟨fun _ => ⟨o4, hin, h77 _ _ _ _ _ ⟨⟨hW'.hi hl' (by omega) (by omega) (hPL.row (by omega) (by omega)) (by omega) (by omega), ?_⟩, py, _, ⟨?_, ?_, ?_, ?_, upC_self _ _ _⟩, hpy, ?_⟩ (hF'.bl h49 (by omega) (by omega)) hn' ?_⟩, fun h => absurd (Int32.le_refl _) h⟩
      · unfold LwP at *; rw [upC_ne _ _ (by omega)]; exact hl'
      · rw [upC_ne _ _ (by omega)]; exact p1
      · rw [upC_ne _ _ (by omega)]; exact p2
      · rw [upC_ne _ _ (by omega)]; exact p3
      · rw [upC_ne _ _ (by omega)]; exact p4
      · rw [hIX]; exact hbs.up hc36 ha hb
      · intro py' bs' h'
        have := h'.2.2.2.2
        rw [upC_self] at this
        cases this
        rw [upd_ap, if_pos rfl]; rfl
    | succ k' ih =>
      intro k n' z' g hk hP' hF' hn'
      have ih' := fun n' z' g => ih (k + 1) n' z' g (by omega)
      simp only [mxF] at ih'
      have hml := mxF_le (bstF_le S L yd a b) k
      obtain ⟨M, hM⟩ : ∃ M, M = mxF (bstF S L yd a b) k := ⟨_, rfl⟩
      rw [← hM] at ih' hml ⊢
      obtain ⟨⟨hW', hl'⟩, py, bs, hPL, hpy, hbs⟩ := id hP'
      obtain ⟨p1, p2, p3, p4, p5⟩ := id hPL
      have qa := eO_eq ha hc36 (show k < cnt by omega)
      have qb := eO_eq hb hc36 (show k < cnt by omega)
      have h63 : (some k = a ∨ some k = b) → V G X 63 [.ref tp, .int (eO a), .int (eO b), .int (nI IX), .int (nI M), .int (nI k)] [] n' z' g := by
        intro hq
        refine wp_sound (by rw [hi]; exact ok_X4_bestBy) (hd := [27, 58]) 400 _ _ _ _ _ _ ?_
        simp only [wp, stp, List.mem_cons, List.not_mem_nil, Nat.reduceEqDiff, or_false, or_self, false_or, or_true, true_or, Nat.reduceAdd, ↓reduceIte, List.getElem?_cons_zero, List.getElem?_cons_succ, nthV, List.set_cons_zero, List.set_cons_succ, noL, popA, catS, Value.category, List.length_cons, List.length_nil, Nat.reduceLT, Nat.reduceLeDiff, true_and, and_true, one0, zer1, imp_t, imp_f, ofN_nI, sdead, f20, f21, not_true_eq_false, upC_ap, upC_upC, retC, fitC, isRefT, Option.toList_some, Option.toList_none, List.cons_append, List.nil_append, Nat.lt_add_one, Nat.zero_lt_succ, Nat.le_refl, Nat.add_zero, Nat.zero_add, Nat.one_ne_zero, Nat.zero_ne_one, Nat.lt_irrefl, List.length_set, fa_X4_bestBy, hi, hd, hQ, mr_X4_bestBy]
        try simp only [m1f]
        try simp (disch := omega) only [nmod, nI_leI, nI_ltI, nI_eq, nI_clamp, vin_nI, nI_1, fa_lit, nI_add, nI_rm3, nI_rm2, pk_rem, pk_mul, pk_sub, pk_div, nI_eM, nI_Me, nI_pM, nI_pMz, nI_pM0, M1_lt, M1_le, nI_ltM, nI_leM, i8_nI, true_and, and_true, false_implies, true_implies, not_false_eq_true, not_true_eq_false, ne_eq, implies_true, Nat.not_lt_zero, Nat.zero_le, ite_min, max0, Nat.reduceLT, Nat.reduceLeDiff, Nat.reduceEqDiff, Nat.reduceAdd, Nat.reduceMul]
        try simp only [m1u]
        have := ih' n' z' g hP' hF' hn'
        rw [show bstF S L yd a b k = 0 from if_pos hq, Nat.max_eq_left (Nat.zero_le _)] at this
        exact this
      refine wp_sound (by rw [hi]; exact ok_X4_bestBy) (hd := [27, 58, 63]) 400 _ _ _ _ _ _ ?_
      simp (disch := omega) only [wp, stp, List.mem_cons, List.not_mem_nil, Nat.reduceEqDiff, or_false, or_self, false_or, or_true, true_or, Nat.reduceAdd, ↓reduceIte, List.getElem?_cons_zero, List.getElem?_cons_succ, nthV, List.set_cons_zero, List.set_cons_succ, noL, popA, catS, Value.category, List.length_cons, List.length_nil, Nat.reduceLT, Nat.reduceLeDiff, true_and, and_true, one0, zer1, imp_t, imp_f, ofN_nI, sdead, f20, f21, not_true_eq_false, upC_self, upC_ne, upC_upC, retC, fitC, isRefT, Option.toList_some, Option.toList_none, List.cons_append, List.nil_append, Nat.lt_add_one, Nat.zero_lt_succ, Nat.le_refl, Nat.add_zero, Nat.zero_add, Nat.one_ne_zero, Nat.zero_ne_one, Nat.lt_irrefl, List.length_set, fa_X4_bestBy, hi, hd, hQ, mr_X4_bestBy, p1]
      refine ⟨fun h => absurd ((nI_leI (by omega) (by omega)).mp h) (by omega), fun _ => ⟨fun h => h63 (Or.inl (qa.mp h)), fun h1 => ⟨fun h => h63 (Or.inr (qb.mp h)), fun h2 => ⟨by omega, _, t_plPayAt hG (by omega) hB h36 hW' hl' h49 (by omega) hsep hPL hY hpy (show k < cnt by omega) (a := a) (b := b) ?_ ?_, ?_⟩⟩⟩⟩
      · cases a with
        | none => trivial
        | some a' => exact ⟨ha, fun e => h1 (by rw [e]; rfl)⟩
      · cases b with
        | none => trivial
        | some b' => exact ⟨hb, fun e => h2 (by rw [e]; rfl)⟩
      · rintro v n1 z1 f1 ⟨rfl, hW1, hl1, ⟨py1, hPL1, hpy1⟩, hF1, hn1⟩
        have hpl := ppN_le S L (yd k) (a.map yd) (b.map yd)
        have eb : bstF S L yd a b k = ppN S L (yd k) (a.map yd) (b.map yd) := if_neg (fun q => by rcases q with q | q; exact h1 (qa.mpr q); exact h2 (qb.mpr q))
        obtain ⟨P, hP0⟩ : ∃ P, P = ppN S L (yd k) (a.map yd) (b.map yd) := ⟨_, rfl⟩
        rw [eb, ← hP0] at ih'
        rw [← hP0] at hpl ⊢
        have emx : (if nI M < nI P then nI P else nI M) = nI (max M P) := by
          have := maxsub (a := M) (b := P) (c := 0) (by omega) (by omega) (by omega)
          rw [show nI P - nI 0 = nI P from pk_sub (Nat.zero_le _)] at this
          exact this
        refine wp_sound (by rw [hi]; exact ok_X4_bestBy) (hd := [27, 58]) 400 _ _ _ _ _ _ ?_
        simp only [wp, stp, List.mem_cons, List.not_mem_nil, Nat.reduceEqDiff, or_false, or_self, false_or, or_true, true_or, Nat.reduceAdd, ↓reduceIte, List.getElem?_cons_zero, List.getElem?_cons_succ, nthV, List.set_cons_zero, List.set_cons_succ, noL, popA, catS, Value.category, List.length_cons, List.length_nil, Nat.reduceLT, Nat.reduceLeDiff, true_and, and_true, one0, zer1, imp_t, imp_f, ofN_nI, sdead, f20, f21, not_true_eq_false, upC_ap, upC_upC, retC, fitC, isRefT, Option.toList_some, Option.toList_none, List.cons_append, List.nil_append, Nat.lt_add_one, Nat.zero_lt_succ, Nat.le_refl, Nat.add_zero, Nat.zero_add, Nat.one_ne_zero, Nat.zero_ne_one, Nat.lt_irrefl, List.length_set, fa_X4_bestBy, hi, hd, hQ, mr_X4_bestBy, emx]
        rw [nI_1]
        exact ⟨by omega, ih' n1 z1 f1 ⟨⟨hW1, hl1⟩, py1, bs, hPL1, hpy1, hbs⟩ (hF'.trans hn' hF1) (by omega)⟩
  obtain ⟨⟨hW', hl'⟩, py, bs, hPL, hpy, hbs⟩ := id hP
  obtain ⟨p1, p2, p3, p4, p5⟩ := id hPL
  refine wp_sound (by rw [hi]; exact ok_X4_bestBy) (hd := [27, 58, 77]) 400 _ _ _ _ _ _ ?_
  simp only [wp, stp, List.mem_cons, List.not_mem_nil, Nat.reduceEqDiff, or_false, or_self, false_or, or_true, true_or, Nat.reduceAdd, ↓reduceIte, List.getElem?_cons_zero, List.getElem?_cons_succ, nthV, List.set_cons_zero, List.set_cons_succ, noL, popA, catS, Value.category, List.length_cons, List.length_nil, Nat.reduceLT, Nat.reduceLeDiff, true_and, and_true, one0, zer1, imp_t, imp_f, ofN_nI, sdead, f20, f21, not_true_eq_false, upC_ap, upC_upC, retC, fitC, isRefT, Option.toList_some, Option.toList_none, List.cons_append, List.nil_append, Nat.lt_add_one, Nat.zero_lt_succ, Nat.le_refl, Nat.add_zero, Nat.zero_add, Nat.one_ne_zero, Nat.zero_ne_one, Nat.lt_irrefl, List.length_set, fa_X4_bestBy, hi, hd, hQ, mr_X4_bestBy, p1, p5, hidx, hix]
  refine ⟨hin, fun hq => h77 _ _ _ _ _ hP (FRB.refl _ _ _ _ _) (Nat.le_refl _) (fun py' bs' h' => ?_), fun hq => loop cnt 0 n z f (by omega) hP (FRB.refl _ _ _ _ _) (Nat.le_refl _)⟩
  have := h'.2.2.2.2
  rw [p5] at this
  cases this
  rcases hbs a b ha hb with q | q
  · rw [← hIX] at q; exact absurd q hq
  · rw [← hIX] at q; exact q
theorem t_noteRow (hG : Ok G) (h49 : 49 ≤ tp) (htp : tp + 5 ≤ 600000) {cn : Int32} {py bs : Nat → Int32} (hPL : PL f tp an pl cn py bs) (hY : PlY S pl cnt yd) {k a : Nat} (hk : k ≤ 20) (ha : a < cnt) {b c : Option Nat} (hb : inO cnt b) (hc : inO cnt c) : Tr G d 52 [.ref tp, .int (nI k), .int (nI a), .int (eO b), .int (eO c)] n z f (fun v n' z' f' => v = none ∧ n' = n ∧ z' = z ∧ f' = upC f (tp + 1) (cI 24 (ntR an k (nI (yd a)) (eO (b.map yd)) (eO (c.map yd))))) := by
  have hc36 := hY.1
  obtain ⟨p1, p2, p3, p4, p5⟩ := id hPL
  have o1 : tp + 1 < 1000000 := by omega
  have e1 : nI k + 1 = nI (k + 1) := nI_1 k
  have e2 : nI k + 2 = nI (k + 2) := nI_add k 2
  have e3 : nI k + 3 = nI (k + 3) := nI_add k 3
  have f1 : (nI (k + 1)).toNatClampNeg = k + 1 := nI_clamp (by omega)
  have f2 : (nI (k + 2)).toNatClampNeg = k + 2 := nI_clamp (by omega)
  have f3 : (nI (k + 3)).toNatClampNeg = k + 3 := nI_clamp (by omega)
  have g1 : vp_in (nI (k + 1)) 24 := (vin_nI (by omega)).mpr (by omega)
  have g2 : vp_in (nI (k + 2)) 24 := (vin_nI (by omega)).mpr (by omega)
  have g3 : vp_in (nI (k + 3)) 24 := (vin_nI (by omega)).mpr (by omega)
  have fa : (nI a).toNatClampNeg = a := nI_clamp (by omega)
  have ga : vp_in (nI a) 36 := (vin_nI (by omega)).mpr (by omega)
  have ea := (hY.2.1 a ha).1
  refine Tr.of2 (ls0 := [.ref tp, .int (nI k), .int (nI a), .int (eO b), .int (eO c)]) hG mo_X4_noteRow (Nat.le_of_ble_eq_true rfl) rfl ?_
  intro X hi hd hXn hXz hXf hQ
  have fin : ∀ r1, V G X 61 [.ref tp, .int (nI k), .int (nI a), .int (eO b), .int (eO c)] [.int (eO (c.map yd)), .int (nI (k + 3)), .ref (tp + 1)] n z (upC f (tp + 1) (cI 24 (upd (upd an (k + 1) (nI (yd a))) (k + 2) r1))) → V G X 36 [.ref tp, .int (nI k), .int (nI a), .int (eO b), .int (eO c)] [.int r1, .int (nI (k + 2)), .ref (tp + 1)] n z (upC f (tp + 1) (cI 24 (upd an (k + 1) (nI (yd a))))) := by
    intro r1 h61
    cases c with
    | none =>
      refine wp_sound (by rw [hi]; exact ok_X4_noteRow) (hd := [61]) 400 _ _ _ _ _ _ ?_
      simp (disch := omega) only [wp, stp, List.mem_cons, List.not_mem_nil, Nat.reduceEqDiff, or_false, or_self, false_or, or_true, true_or, Nat.reduceAdd, ↓reduceIte, List.getElem?_cons_zero, List.getElem?_cons_succ, nthV, List.set_cons_zero, List.set_cons_succ, noL, popA, catS, Value.category, List.length_cons, List.length_nil, Nat.reduceLT, Nat.reduceLeDiff, true_and, and_true, one0, zer1, imp_t, imp_f, ofN_nI, sdead, f20, f21, not_true_eq_false, upC_self, upC_ne, upC_upC, retC, fitC, isRefT, Option.toList_some, Option.toList_none, List.cons_append, List.nil_append, Nat.lt_add_one, Nat.zero_lt_succ, Nat.le_refl, Nat.add_zero, Nat.zero_add, Nat.one_ne_zero, Nat.zero_ne_one, Nat.lt_irrefl, List.length_set, fa_X4_noteRow, hi, hd, hQ, mr_X4_noteRow, p1, p2, p3, o1, e3, f2]
      exact ⟨g2, fun h => absurd rfl h, fun _ => h61⟩
    | some c' =>
      have hc' : c' < cnt := hc
      have fc : (nI c').toNatClampNeg = c' := nI_clamp (by omega)
      have ec := (hY.2.1 c' hc').1
      rw [show eO (some c') = nI c' from rfl] at h61 ⊢
      refine wp_sound (by rw [hi]; exact ok_X4_noteRow) (hd := [61]) 400 _ _ _ _ _ _ ?_
      simp (disch := omega) only [wp, stp, List.mem_cons, List.not_mem_nil, Nat.reduceEqDiff, or_false, or_self, false_or, or_true, true_or, Nat.reduceAdd, ↓reduceIte, List.getElem?_cons_zero, List.getElem?_cons_succ, nthV, List.set_cons_zero, List.set_cons_succ, noL, popA, catS, Value.category, List.length_cons, List.length_nil, Nat.reduceLT, Nat.reduceLeDiff, true_and, and_true, one0, zer1, imp_t, imp_f, ofN_nI, sdead, f20, f21, not_true_eq_false, upC_self, upC_ne, upC_upC, retC, fitC, isRefT, Option.toList_some, Option.toList_none, List.cons_append, List.nil_append, Nat.lt_add_one, Nat.zero_lt_succ, Nat.le_refl, Nat.add_zero, Nat.zero_add, Nat.one_ne_zero, Nat.zero_ne_one, Nat.lt_irrefl, List.length_set, fa_X4_noteRow, hi, hd, hQ, mr_X4_noteRow, p1, p2, p3, o1, e3, f2, fc, ec]
      exact ⟨g2, fun _ => ⟨(vin_nI (by omega)).mpr (by omega), h61⟩, fun h => absurd h (by rw [nI_em (by omega)]; exact id)⟩
  have h61 : ∀ r1 r2, r1 = eO (b.map yd) → r2 = eO (c.map yd) → V G X 61 [.ref tp, .int (nI k), .int (nI a), .int (eO b), .int (eO c)] [.int r2, .int (nI (k + 3)), .ref (tp + 1)] n z (upC f (tp + 1) (cI 24 (upd (upd an (k + 1) (nI (yd a))) (k + 2) r1))) := by
    rintro r1 r2 rfl rfl
    refine wp_sound (by rw [hi]; exact ok_X4_noteRow) (hd := []) 400 _ _ _ _ _ _ ?_
    simp (disch := omega) only [wp, stp, List.mem_cons, List.not_mem_nil, Nat.reduceEqDiff, or_false, or_self, false_or, or_true, true_or, Nat.reduceAdd, ↓reduceIte, List.getElem?_cons_zero, List.getElem?_cons_succ, nthV, List.set_cons_zero, List.set_cons_succ, noL, popA, catS, Value.category, List.length_cons, List.length_nil, Nat.reduceLT, Nat.reduceLeDiff, true_and, and_true, one0, zer1, imp_t, imp_f, ofN_nI, sdead, f20, f21, not_true_eq_false, upC_self, upC_ne, upC_upC, retC, fitC, isRefT, Option.toList_some, Option.toList_none, List.cons_append, List.nil_append, Nat.lt_add_one, Nat.zero_lt_succ, Nat.le_refl, Nat.add_zero, Nat.zero_add, Nat.one_ne_zero, Nat.zero_ne_one, Nat.lt_irrefl, List.length_set, fa_X4_noteRow, hi, hd, hQ, mr_X4_noteRow, p1, p2, p3, o1, f3]
    exact ⟨g3, rfl⟩
  cases b with
  | none =>
    refine wp_sound (by rw [hi]; exact ok_X4_noteRow) (hd := [36]) 400 _ _ _ _ _ _ ?_
    simp (disch := omega) only [wp, stp, List.mem_cons, List.not_mem_nil, Nat.reduceEqDiff, or_false, or_self, false_or, or_true, true_or, Nat.reduceAdd, ↓reduceIte, List.getElem?_cons_zero, List.getElem?_cons_succ, nthV, List.set_cons_zero, List.set_cons_succ, noL, popA, catS, Value.category, List.length_cons, List.length_nil, Nat.reduceLT, Nat.reduceLeDiff, true_and, and_true, one0, zer1, imp_t, imp_f, ofN_nI, sdead, f20, f21, not_true_eq_false, upC_self, upC_ne, upC_upC, retC, fitC, isRefT, Option.toList_some, Option.toList_none, List.cons_append, List.nil_append, Nat.lt_add_one, Nat.zero_lt_succ, Nat.le_refl, Nat.add_zero, Nat.zero_add, Nat.one_ne_zero, Nat.zero_ne_one, Nat.lt_irrefl, List.length_set, fa_X4_noteRow, hi, hd, hQ, mr_X4_noteRow, p1, p2, p3, o1, e1, e2, fa, f1, ea]
    exact ⟨ga, g1, fun h => absurd rfl h, fun _ => fin _ (h61 _ _ rfl rfl)⟩
  | some b' =>
    have hb' : b' < cnt := hb
    have fb : (nI b').toNatClampNeg = b' := nI_clamp (by omega)
    have eb := (hY.2.1 b' hb').1
    rw [show eO (some b') = nI b' from rfl] at fin h61 ⊢
    refine wp_sound (by rw [hi]; exact ok_X4_noteRow) (hd := [36]) 400 _ _ _ _ _ _ ?_
    simp (disch := omega) only [wp, stp, List.mem_cons, List.not_mem_nil, Nat.reduceEqDiff, or_false, or_self, false_or, or_true, true_or, Nat.reduceAdd, ↓reduceIte, List.getElem?_cons_zero, List.getElem?_cons_succ, nthV, List.set_cons_zero, List.set_cons_succ, noL, popA, catS, Value.category, List.length_cons, List.length_nil, Nat.reduceLT, Nat.reduceLeDiff, true_and, and_true, one0, zer1, imp_t, imp_f, ofN_nI, sdead, f20, f21, not_true_eq_false, upC_self, upC_ne, upC_upC, retC, fitC, isRefT, Option.toList_some, Option.toList_none, List.cons_append, List.nil_append, Nat.lt_add_one, Nat.zero_lt_succ, Nat.le_refl, Nat.add_zero, Nat.zero_add, Nat.one_ne_zero, Nat.zero_ne_one, Nat.lt_irrefl, List.length_set, fa_X4_noteRow, hi, hd, hQ, mr_X4_noteRow, p1, p2, p3, o1, e1, e2, fa, f1, ea, fb, eb]
    exact ⟨ga, g1, fun _ => ⟨(vin_nI (by omega)).mpr (by omega), fin _ (h61 _ _ rfl rfl)⟩, fun h => absurd h (by rw [nI_em (by omega)]; exact id)⟩
end Pl2
