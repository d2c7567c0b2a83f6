-- Placings: one placing judged
set_option maxRecDepth 100000
set_option maxHeartbeats 4000000
def jd1 (an : Nat → Int32) (r0 r1 r2 s : Int32) : Nat → Int32 := if an 10 = -1 ∨ s < an 10 then ntR (upd an 10 s) 10 r0 r1 r2 else an
def jd2 (an : Nat → Int32) (r0 r1 r2 s : Int32) : Nat → Int32 := if an 20 < s then ntR (upd an 20 s) 20 r0 r1 r2 else an
def jd3 (an : Nat → Int32) (r0 r1 r2 : Int32) : Nat → Int32 := if an 0 = 0 then upd (ntR an 0 r0 r1 r2) 0 (an 0 + 1) else upd an 0 (an 0 + 1)
noncomputable def plB (S : Sta) (L : Lw) (p : Nat) (q r : Option Nat) : Nat := match q with
  | none => 0
  | some q' => ppN S L q' (some p) r
noncomputable def sumP (S : Sta) (L : Lw) (p : Nat) (q r : Option Nat) : Nat := ppN S L p q r + plB S L p q r + plB S L p r q
/-- one has no better place -/
def rs1 (S : Sta) (L : Lw) (p : Nat) (x y : Option Nat) : Prop := ∀ c, gsN S c → ¬ some c = x → ¬ some c = y → ppN S L c x y ≤ ppN S L p x y + (S 0 6).toNatClampNeg
def rsP (S : Sta) (L : Lw) (p : Nat) (q r : Option Nat) : Prop := rs1 S L p q r ∧ (∀ q', q = some q' → rs1 S L q' (some p) r) ∧ ∀ r', r = some r' → rs1 S L r' (some p) q
noncomputable def jdA (S : Sta) (L : Lw) (an : Nat → Int32) (p : Nat) (q r : Option Nat) : Nat → Int32 :=
  @ite _ (rsP S L p q r) (Classical.propDecidable _) (jd3 (jd2 (jd1 an (nI p) (eO q) (eO r) (nI (sumP S L p q r))) (nI p) (eO q) (eO r) (nI (sumP S L p q r))) (nI p) (eO q) (eO r)) (jd2 (jd1 an (nI p) (eO q) (eO r) (nI (sumP S L p q r))) (nI p) (eO q) (eO r) (nI (sumP S L p q r)))
/-- the places are all the grass -/
def PlA (S : Sta) (cnt : Nat) (yd : Nat → Nat) : Prop := ∀ c, gsN S c → ∃ i, i < cnt ∧ yd i = c
theorem mxF_iff {F : Nat → Nat} {b : Nat} : ∀ k, mxF F k ≤ b ↔ ∀ i, i < k → F i ≤ b
  | 0 => ⟨fun _ i hi => absurd hi (Nat.not_lt_zero i), fun _ => Nat.zero_le _⟩
  | k + 1 => by
    rw [mxF, Nat.max_le, mxF_iff k]
    constructor
    · rintro ⟨h1, h2⟩ i hi
      by_cases e : i = k
      · subst e; exact h2
      · exact h1 i (by omega)
    · intro h; exact ⟨fun i hi => h i (by omega), h k (by omega)⟩
theorem map_some_eq {cnt : Nat} {S : Sta} {pl : Nat → Int32} {yd : Nat → Nat} (hY : PlY S pl cnt yd) {i : Nat} (hi : i < cnt) {x : Option Nat} (hx : inO cnt x) : some (yd i) = x.map yd ↔ some i = x := by
  cases x with
  | none => exact ⟨fun q => (by cases q), fun q => (by cases q)⟩
  | some a =>
    have hx : a < cnt := hx
    constructor
    · intro q
      have q : some (yd i) = some (yd a) := q
      by_cases e : i = a
      · rw [e]
      · exact absurd (Option.some.inj q) (hY.ne hi hx e)
    · intro q; cases q; rfl
theorem best_rs {S : Sta} {L : Lw} {cnt : Nat} {pl : Nat → Int32} {yd : Nat → Nat} (hY : PlY S pl cnt yd) (hA : PlA S cnt yd) {p : Nat} {x y : Option Nat} (hx : inO cnt x) (hy : inO cnt y) : bestN S L cnt yd x y ≤ ppN S L p (x.map yd) (y.map yd) + (S 0 6).toNatClampNeg ↔ rs1 S L p (x.map yd) (y.map yd) := by
  unfold bestN rs1
  rw [mxF_iff]
  constructor
  · intro h c hc h1 h2
    obtain ⟨i, hi, rfl⟩ := hA c hc
    have := h i hi
    rw [bstF, if_neg (fun q => by rcases q with q | q; exact h1 ((map_some_eq hY hi hx).mpr q); exact h2 ((map_some_eq hY hi hy).mpr q))] at this
    exact this
  · intro h i hi
    unfold bstF
    by_cases q : some i = x ∨ some i = y
    · rw [if_pos q]; exact Nat.zero_le _
    · rw [if_neg q]
      exact h (yd i) (hY.2.1 i hi).2 (fun z => q (Or.inl ((map_some_eq hY hi hx).mp z))) (fun z => q (Or.inr ((map_some_eq hY hi hy).mp z)))
theorem PWd.an {S : Sta} {L : Lw} {lp N Z K tp cnt n z : Nat} {yd : Nat → Nat} {an an' pl : Nat → Int32} {f : Mf} (h : PWd S L lp N Z K tp cnt yd an pl f n z) (h49 : 49 ≤ tp) (htp : tp + 5 ≤ 600000) (hsep : lp + 1 < tp ∨ tp + 4 < lp) : PWd S L lp N Z K tp cnt yd an' pl (upC f (tp + 1) (cI 24 an')) n z := by
  obtain ⟨⟨hW, hl⟩, py, bs, hPL, hpy, hbs⟩ := h
  obtain ⟨p1, p2, p3, p4, p5⟩ := id hPL
  refine ⟨⟨hW.hi hl (by omega) (by omega) (hPL.row (by omega) (by omega)) (by omega) (by omega), ?_⟩, py, bs, ⟨?_, upC_self _ _ _, ?_, ?_, ?_⟩, hpy, hbs⟩
  · unfold LwP at *; rw [upC_ne _ _ (by omega)]; exact hl
  · rw [upC_ne _ _ (by omega)]; exact p1
  · rw [upC_ne _ _ (by omega)]; exact p3
  · rw [upC_ne _ _ (by omega)]; exact p4
  · rw [upC_ne _ _ (by omega)]; exact p5
theorem sub_gt {a b c : Nat} (ha : a < 1000000000) (hb : b < 1000000000) (hc : c < 1000000000) : nI c < nI a - nI b ↔ ¬ a ≤ c + b := by
  rw [← sub_le ha hb hc]; exact Int32.not_le.symm
theorem okO_in {cnt i : Nat} {x : Option Nat} (h : okO cnt i x) : inO cnt x := by
  cases x with
  | none => trivial
  | some a => exact h.1
section Pl3
variable {G : Gam} {d n z lp N Z K tp cnt : Nat} {f : Mf} {S : Sta} {L : Lw} {an pl : Nat → Int32} {yd : Nat → Nat}
theorem t_judge (hG : Ok G) (hd1 : 5 ≤ d) (hS : VS S) (h36 : wdt S * hgt S ≤ 36) (h49 : 49 ≤ tp) (hn5 : tp + 5 ≤ n) (hsep : lp + 1 < tp ∨ tp + 4 < lp) (hY : PlY S pl cnt yd) (hA : PlA S cnt yd) (hP : PWd S L lp N Z K tp cnt yd an pl f n z) {a : Nat} (ha : a < cnt) {b c : Option Nat} (hb : okO cnt a b) (hc : okO cnt a c) (hbc : ∀ b' c', b = some b' → c = some c' → ¬ b' = c') : Tr G d 51 [.ref tp, .int (nI a), .int (eO b), .int (eO c)] n z f (fun v n' z' f' => v = none ∧ PWd S L lp N Z K tp cnt yd (jdA S L an (yd a) (b.map yd) (c.map yd)) pl f' n' z' ∧ FRB FP tp 5 f n f' ∧ n ≤ n') := by
  have hB := hS.1.1
  have hc36 := hY.1
  have hnle : n ≤ 600000 := by
    have hCAP : CAP = 600000 := rfl
    have := hP.1.1.2.2.1; obtain ⟨g1, g2, -, -, -, w4, -⟩ := hP.1.1.2.2.2.2.2.2; omega
  obtain ⟨fi, hfi, efi⟩ := hS.2.2.2.2.1
  have hcf : (S 0 6).toNatClampNeg = fi := by rw [efi, nI_clamp (by omega)]
  obtain ⟨oA, hoA⟩ : ∃ oA, oA = ppN S L (yd a) (b.map yd) (c.map yd) := ⟨_, rfl⟩
  obtain ⟨oB, hoB⟩ : ∃ oB, oB = plB S L (yd a) (b.map yd) (c.map yd) := ⟨_, rfl⟩
  obtain ⟨oC, hoC⟩ : ∃ oC, oC = plB S L (yd a) (c.map yd) (b.map yd) := ⟨_, rfl⟩
  obtain ⟨sm, hsm⟩ : ∃ sm, sm = sumP S L (yd a) (b.map yd) (c.map yd) := ⟨_, rfl⟩
  have esm : sm = oA + oB + oC := by rw [hsm, hoA, hoB, hoC]; rfl
  have lA : oA ≤ 9999 := by rw [hoA]; exact ppN_le _ _ _ _ _
  have lP : ∀ p q r, plB S L p q r ≤ 9999 := fun p q r => by
    cases q with
    | none => exact Nat.zero_le _
    | some q => exact ppN_le _ _ _ _ _
  have lB : oB ≤ 9999 := by rw [hoB]; exact lP _ _ _
  have lC : oC ≤ 9999 := by rw [hoC]; exact lP _ _ _
  have hbi := okO_in hb
  have hci := okO_in hc
  have hai : inO cnt (some a) := ha
  have rA := best_rs (L := L) (p := yd a) hY hA hbi hci
  rw [← hoA, hcf] at rA
  have rB : ∀ b', b = some b' → (bestN S L cnt yd (some a) c ≤ oB + fi ↔ rs1 S L (yd b') (some (yd a)) (c.map yd)) := fun b' e => by
    have := best_rs (L := L) (p := yd b') hY hA hai hci
    rw [hcf] at this
    rw [hoB, e]; exact this
  have rC : ∀ c', c = some c' → (bestN S L cnt yd (some a) b ≤ oC + fi ↔ rs1 S L (yd c') (some (yd a)) (b.map yd)) := fun c' e => by
    have := best_rs (L := L) (p := yd c') hY hA hai hbi
    rw [hcf] at this
    rw [hoC, e]; exact this
  obtain ⟨r0, hr0⟩ : ∃ r0, r0 = nI (yd a) := ⟨_, rfl⟩
  obtain ⟨r1, hr1⟩ : ∃ r1, r1 = eO (b.map yd) := ⟨_, rfl⟩
  obtain ⟨r2, hr2⟩ : ∃ r2, r2 = eO (c.map yd) := ⟨_, rfl⟩
  obtain ⟨an1, han1⟩ : ∃ an1, an1 = jd1 an r0 r1 r2 (nI sm) := ⟨_, rfl⟩
  obtain ⟨an2, han2⟩ : ∃ an2, an2 = jd2 an1 r0 r1 r2 (nI sm) := ⟨_, rfl⟩
  have hjd : jdA S L an (yd a) (b.map yd) (c.map yd) = @ite _ (rsP S L (yd a) (b.map yd) (c.map yd)) (Classical.propDecidable _) (jd3 an2 r0 r1 r2) an2 := by
    unfold jdA; rw [han2, han1, hr0, hr1, hr2, hsm]
  have nR := fun (f : Mf) (n z k : Nat) (an : Nat → Int32) (py bs : Nat → Int32) (h : PL f tp an pl (nI cnt) py bs) (hk : k ≤ 20) => t_noteRow (d := d - 1) (n := n) (z := z) hG h49 (by omega) h hY hk ha hbi hci
  simp only [← hr0, ← hr1, ← hr2] at nR
  refine Tr.of2 (ls0 := [.ref tp, .int (nI a), .int (eO b), .int (eO c), dead, dead, dead, dead, dead]) hG mo_X4_judge (Nat.le_of_ble_eq_true rfl) rfl ?_
  intro X hi hd hXn hXz hXf hQ
  -- the end
  have h198 : ∀ n' z' g fl u8, PWd S L lp N Z K tp cnt yd an2 pl g n' z' → FRB FP tp 5 f n g → n ≤ n' → (fl = 1 ∧ rsP S L (yd a) (b.map yd) (c.map yd) ∨ fl = 0 ∧ ¬ rsP S L (yd a) (b.map yd) (c.map yd)) → V G X 198 [.ref tp, .int (nI a), .int (eO b), .int (eO c), .int (nI oA), .int (nI oB), .int (nI oC), .int (nI sm), u8] [.int fl] n' z' g := by
    intro n' z' g fl u8 hP' hF' hn' hfl
    obtain ⟨-, py, bs, hPL, -, -⟩ := id hP'
    obtain ⟨p1, p2, p3, p4, p5⟩ := id hPL
    have o1 : tp + 1 < 1000000 := by omega
    rcases hfl with ⟨rfl, hr⟩ | ⟨rfl, hr⟩
    · rw [hjd, if_pos hr] at hQ
      have c0 : (0 : Int32).toNatClampNeg = 0 := rfl
      have i0 : vp_in (0 : Int32) 24 := (vin_nI (i := 0) (by omega)).mpr (by omega)
      refine wp_sound (by rw [hi]; exact ok_X4_judge) (hd := [7, 25, 43, 96, 126, 132, 156, 180, 222]) 400 _ _ _ _ _ _ ?_
      simp (disch := omega) only [wp, stp, List.mem_cons, List.not_mem_nil, Nat.reduceEqDiff, or_false, or_self, false_or, or_true, true_or, Nat.reduceAdd, ↓reduceIte, List.getElem?_cons_zero, List.getElem?_cons_succ, nthV, List.set_cons_zero, List.set_cons_succ, noL, popA, catS, Value.category, List.length_cons, List.length_nil, Nat.reduceLT, Nat.reduceLeDiff, true_and, and_true, one0, zer1, imp_t, imp_f, ofN_nI, sdead, f20, f21, not_true_eq_false, upC_self, upC_ne, upC_upC, retC, fitC, isRefT, Option.toList_some, Option.toList_none, List.cons_append, List.nil_append, Nat.lt_add_one, Nat.zero_lt_succ, Nat.le_refl, Nat.add_zero, Nat.zero_add, Nat.one_ne_zero, Nat.zero_ne_one, Nat.lt_irrefl, List.length_set, fa_X4_judge, hi, hd, hQ, mr_X4_judge, p1, p2, c0]
      refine ⟨i0, fun h0 => ?_, fun h0 => ⟨by omega, _, nR g n' z' 0 an2 py bs hPL (by omega), ?_⟩⟩
      · have e3 : jd3 an2 r0 r1 r2 = upd an2 0 (an2 0 + 1) := if_neg h0
        refine wp_sound (by rw [hi]; exact ok_X4_judge) (hd := [7, 25, 43, 96, 126, 132, 156, 180, 222]) 400 _ _ _ _ _ _ ?_
        simp (disch := omega) only [wp, stp, List.mem_cons, List.not_mem_nil, Nat.reduceEqDiff, or_false, or_self, false_or, or_true, true_or, Nat.reduceAdd, ↓reduceIte, List.getElem?_cons_zero, List.getElem?_cons_succ, nthV, List.set_cons_zero, List.set_cons_succ, noL, popA, catS, Value.category, List.length_cons, List.length_nil, Nat.reduceLT, Nat.reduceLeDiff, true_and, and_true, one0, zer1, imp_t, imp_f, ofN_nI, sdead, f20, f21, not_true_eq_false, upC_self, upC_ne, upC_upC, retC, fitC, isRefT, Option.toList_some, Option.toList_none, List.cons_append, List.nil_append, Nat.lt_add_one, Nat.zero_lt_succ, Nat.le_refl, Nat.add_zero, Nat.zero_add, Nat.one_ne_zero, Nat.zero_ne_one, Nat.lt_irrefl, List.length_set, fa_X4_judge, hi, hd, hQ, mr_X4_judge, p1, p2, c0, o1]
        rw [e3]
        exact ⟨i0, i0, hP'.an h49 (by omega) hsep, hF'.bl h49 (by omega) (by omega), hn'⟩
      · rintro v n1 z1 f1 ⟨rfl, rfl, rfl, rfl⟩
        have e3 : jd3 an2 r0 r1 r2 = upd (ntR an2 0 r0 r1 r2) 0 (an2 0 + 1) := if_pos h0
        have en : ntR an2 0 r0 r1 r2 0 = an2 0 := rfl
        refine wp_sound (by rw [hi]; exact ok_X4_judge) (hd := [7, 25, 43, 96, 126, 132, 156, 180, 222]) 400 _ _ _ _ _ _ ?_
        simp (disch := omega) only [wp, stp, List.mem_cons, List.not_mem_nil, Nat.reduceEqDiff, or_false, or_self, false_or, or_true, true_or, Nat.reduceAdd, ↓reduceIte, List.getElem?_cons_zero, List.getElem?_cons_succ, nthV, List.set_cons_zero, List.set_cons_succ, noL, popA, catS, Value.category, List.length_cons, List.length_nil, Nat.reduceLT, Nat.reduceLeDiff, true_and, and_true, one0, zer1, imp_t, imp_f, ofN_nI, sdead, f20, f21, not_true_eq_false, upC_self, upC_ne, upC_upC, retC, fitC, isRefT, Option.toList_some, Option.toList_none, List.cons_append, List.nil_append, Nat.lt_add_one, Nat.zero_lt_succ, Nat.le_refl, Nat.add_zero, Nat.zero_add, Nat.one_ne_zero, Nat.zero_ne_one, Nat.lt_irrefl, List.length_set, fa_X4_judge, hi, hd, hQ, mr_X4_judge, p1, p2, c0, o1, en]
        rw [e3]
        have h1 := hP'.an (an' := ntR an2 0 r0 r1 r2) h49 (by omega) hsep
        have h2 := h1.an (an' := upd (ntR an2 0 r0 r1 r2) 0 (an2 0 + 1)) h49 (by omega) hsep
        rw [upC_upC] at h2
        exact ⟨i0, i0, h2, hF'.bl h49 (by omega) (by omega), hn'⟩
    · rw [hjd, if_neg hr] at hQ
      refine wp_sound (by rw [hi]; exact ok_X4_judge) (hd := [7, 25, 43, 96, 126, 132, 156, 180, 222]) 400 _ _ _ _ _ _ ?_
      simp (disch := omega) only [wp, stp, List.mem_cons, List.not_mem_nil, Nat.reduceEqDiff, or_false, or_self, false_or, or_true, true_or, Nat.reduceAdd, ↓reduceIte, List.getElem?_cons_zero, List.getElem?_cons_succ, nthV, List.set_cons_zero, List.set_cons_succ, noL, popA, catS, Value.category, List.length_cons, List.length_nil, Nat.reduceLT, Nat.reduceLeDiff, true_and, and_true, one0, zer1, imp_t, imp_f, ofN_nI, sdead, f20, f21, not_true_eq_false, upC_self, upC_ne, upC_upC, retC, fitC, isRefT, Option.toList_some, Option.toList_none, List.cons_append, List.nil_append, Nat.lt_add_one, Nat.zero_lt_succ, Nat.le_refl, Nat.add_zero, Nat.zero_add, Nat.one_ne_zero, Nat.zero_ne_one, Nat.lt_irrefl, List.length_set, fa_X4_judge, hi, hd, hQ, mr_X4_judge]
      intro _
      exact ⟨hP', hF', hn'⟩
  have h193 : ∀ n' z' g u8, PWd S L lp N Z K tp cnt yd an2 pl g n' z' → FRB FP tp 5 f n g → n ≤ n' → rsP S L (yd a) (b.map yd) (c.map yd) → V G X 193 [.ref tp, .int (nI a), .int (eO b), .int (eO c), .int (nI oA), .int (nI oB), .int (nI oC), .int (nI sm), u8] [] n' z' g := by
    intro n' z' g u8 q1 q2 q3 q4
    refine wp_sound (by rw [hi]; exact ok_X4_judge) (hd := [7, 25, 43, 96, 126, 132, 156, 180, 198, 222]) 400 _ _ _ _ _ _ ?_
    simp only [wp, stp, List.mem_cons, List.not_mem_nil, Nat.reduceEqDiff, or_false, or_self, false_or, or_true, true_or, Nat.reduceAdd, ↓reduceIte, List.getElem?_cons_zero, List.getElem?_cons_succ, nthV, List.set_cons_zero, List.set_cons_succ, noL, popA, catS, Value.category, List.length_cons, List.length_nil, Nat.reduceLT, Nat.reduceLeDiff, true_and, and_true, one0, zer1, imp_t, imp_f, ofN_nI, sdead, f20, f21, not_true_eq_false, upC_ap, upC_upC, retC, fitC, isRefT, Option.toList_some, Option.toList_none, List.cons_append, List.nil_append, Nat.lt_add_one, Nat.zero_lt_succ, Nat.le_refl, Nat.add_zero, Nat.zero_add, Nat.one_ne_zero, Nat.zero_ne_one, Nat.lt_irrefl, List.length_set, fa_X4_judge, hi, hd, hQ, mr_X4_judge]
    exact h198 _ _ _ _ _ q1 q2 q3 (Or.inl ⟨rfl, q4⟩)
  have h197 : ∀ n' z' g u8, PWd S L lp N Z K tp cnt yd an2 pl g n' z' → FRB FP tp 5 f n g → n ≤ n' → ¬ rsP S L (yd a) (b.map yd) (c.map yd) → V G X 197 [.ref tp, .int (nI a), .int (eO b), .int (eO c), .int (nI oA), .int (nI oB), .int (nI oC), .int (nI sm), u8] [] n' z' g := by
    intro n' z' g u8 q1 q2 q3 q4
    refine wp_sound (by rw [hi]; exact ok_X4_judge) (hd := [7, 25, 43, 96, 126, 132, 156, 180, 198, 222]) 400 _ _ _ _ _ _ ?_
    simp only [wp, stp, List.mem_cons, List.not_mem_nil, Nat.reduceEqDiff, or_false, or_self, false_or, or_true, true_or, Nat.reduceAdd, ↓reduceIte, List.getElem?_cons_zero, List.getElem?_cons_succ, nthV, List.set_cons_zero, List.set_cons_succ, noL, popA, catS, Value.category, List.length_cons, List.length_nil, Nat.reduceLT, Nat.reduceLeDiff, true_and, and_true, one0, zer1, imp_t, imp_f, ofN_nI, sdead, f20, f21, not_true_eq_false, upC_ap, upC_upC, retC, fitC, isRefT, Option.toList_some, Option.toList_none, List.cons_append, List.nil_append, Nat.lt_add_one, Nat.zero_lt_succ, Nat.le_refl, Nat.add_zero, Nat.zero_add, Nat.one_ne_zero, Nat.zero_ne_one, Nat.lt_irrefl, List.length_set, fa_X4_judge, hi, hd, hQ, mr_X4_judge]
    exact h198 _ _ _ _ _ q1 q2 q3 (Or.inr ⟨rfl, q4⟩)
  have h169 : ∀ n' z' g u8, PWd S L lp N Z K tp cnt yd an2 pl g n' z' → FRB FP tp 5 f n g → n ≤ n' → rs1 S L (yd a) (b.map yd) (c.map yd) → (∀ q', b.map yd = some q' → rs1 S L q' (some (yd a)) (c.map yd)) → V G X 169 [.ref tp, .int (nI a), .int (eO b), .int (eO c), .int (nI oA), .int (nI oB), .int (nI oC), .int (nI sm), u8] [] n' z' g := by
    intro n' z' g u8 hP' hF' hn' q1 q2
    cases hcc : c with
    | none =>
      rw [hcc] at h193
      refine wp_sound (by rw [hi]; exact ok_X4_judge) (hd := [7, 25, 43, 96, 126, 132, 156, 180, 193, 222]) 400 _ _ _ _ _ _ ?_
      simp only [wp, stp, List.mem_cons, List.not_mem_nil, Nat.reduceEqDiff, or_false, or_self, false_or, or_true, true_or, Nat.reduceAdd, ↓reduceIte, List.getElem?_cons_zero, List.getElem?_cons_succ, nthV, List.set_cons_zero, List.set_cons_succ, noL, popA, catS, Value.category, List.length_cons, List.length_nil, Nat.reduceLT, Nat.reduceLeDiff, true_and, and_true, one0, zer1, imp_t, imp_f, ofN_nI, sdead, f20, f21, not_true_eq_false, upC_ap, upC_upC, retC, fitC, isRefT, Option.toList_some, Option.toList_none, List.cons_append, List.nil_append, Nat.lt_add_one, Nat.zero_lt_succ, Nat.le_refl, Nat.add_zero, Nat.zero_add, Nat.one_ne_zero, Nat.zero_ne_one, Nat.lt_irrefl, List.length_set, fa_X4_judge, hi, hd, hQ, mr_X4_judge]
      exact ⟨fun _ => h193 _ _ _ _ hP' hF' hn' (by rw [← hcc]; exact ⟨q1, q2, fun r' h => by rw [hcc] at h; cases h⟩), fun h => absurd rfl h⟩
    | some c' =>
      have hc' : c' < cnt := by rw [hcc] at hc; exact hc.1
      obtain ⟨-, py, bs, hPL, -, -⟩ := id hP'
      obtain ⟨p1, p2, p3, p4, p5⟩ := id hPL
      have rC' := rC c' hcc
      have hbl := bestN_le S L cnt yd (some a) b
      have eqc : eO (some c') = eO c := by rw [hcc]
      rw [eqc]
      refine wp_sound (by rw [hi]; exact ok_X4_judge) (hd := [7, 25, 43, 96, 126, 132, 156, 180, 193, 197, 222]) 400 _ _ _ _ _ _ ?_
      simp (disch := omega) only [wp, stp, List.mem_cons, List.not_mem_nil, Nat.reduceEqDiff, or_false, or_self, false_or, or_true, true_or, Nat.reduceAdd, ↓reduceIte, List.getElem?_cons_zero, List.getElem?_cons_succ, nthV, List.set_cons_zero, List.set_cons_succ, noL, popA, catS, Value.category, List.length_cons, List.length_nil, Nat.reduceLT, Nat.reduceLeDiff, true_and, and_true, one0, zer1, imp_t, imp_f, ofN_nI, sdead, f20, f21, not_true_eq_false, upC_self, upC_ne, upC_upC, retC, fitC, isRefT, Option.toList_some, Option.toList_none, List.cons_append, List.nil_append, Nat.lt_add_one, Nat.zero_lt_succ, Nat.le_refl, Nat.add_zero, Nat.zero_add, Nat.one_ne_zero, Nat.zero_ne_one, Nat.lt_irrefl, List.length_set, fa_X4_judge, hi, hd, hQ, mr_X4_judge, p1]
      refine ⟨fun h => absurd h (by rw [hcc]; show ¬ nI c' = -1; rw [nI_em (by omega)]; exact id), fun _ => ⟨by omega, _, t_bestBy hG (by omega) hB h36 h49 (by omega) hsep hY hP' hai hbi, ?_⟩⟩
      rintro v n1 z1 f1 ⟨rfl, hP1, hF1, hn1⟩
      obtain ⟨⟨hW1, -⟩, py1, bs1, ⟨p1', -⟩, -, -⟩ := id hP1
      have c1 := hW1.1.1
      refine wp_sound (by rw [hi]; exact ok_X4_judge) (hd := [7, 25, 43, 96, 126, 132, 156, 180, 193, 197, 222]) 400 _ _ _ _ _ _ ?_
      simp (disch := omega) only [wp, stp, List.mem_cons, List.not_mem_nil, Nat.reduceEqDiff, or_false, or_self, false_or, or_true, true_or, Nat.reduceAdd, ↓reduceIte, List.getElem?_cons_zero, List.getElem?_cons_succ, nthV, List.set_cons_zero, List.set_cons_succ, noL, popA, catS, Value.category, List.length_cons, List.length_nil, Nat.reduceLT, Nat.reduceLeDiff, true_and, and_true, one0, zer1, imp_t, imp_f, ofN_nI, sdead, f20, f21, not_true_eq_false, upC_self, upC_ne, upC_upC, retC, fitC, isRefT, Option.toList_some, Option.toList_none, List.cons_append, List.nil_append, Nat.lt_add_one, Nat.zero_lt_succ, Nat.le_refl, Nat.add_zero, Nat.zero_add, Nat.one_ne_zero, Nat.zero_ne_one, Nat.lt_irrefl, List.length_set, fa_X4_judge, hi, hd, hQ, mr_X4_judge, p1', c1, efi]
      rw [sub_gt (by omega) (by omega) (by omega)]
      refine ⟨fun h => h197 _ _ _ _ hP1 (hF'.trans hn' hF1) (by omega) (fun q => h (rC'.mpr (q.2.2 _ (by rw [hcc]; rfl)))), fun h => h193 _ _ _ _ hP1 (hF'.trans hn' hF1) (by omega) ⟨q1, q2, fun r' hr' => ?_⟩⟩
      rw [hcc] at hr'
      cases hr'
      exact rC'.mp (Decidable.not_not.mp h)
  have h126 : ∀ n' z' g u8, PWd S L lp N Z K tp cnt yd an2 pl g n' z' → FRB FP tp 5 f n g → n ≤ n' → V G X 126 [.ref tp, .int (nI a), .int (eO b), .int (eO c), .int (nI oA), .int (nI oB), .int (nI oC), .int (nI sm), u8] [] n' z' g := by
    intro n' z' g u8 hP' hF' hn'
    obtain ⟨-, py, bs, hPL, -, -⟩ := id hP'
    obtain ⟨p1, p2, p3, p4, p5⟩ := id hPL
    have hbl := bestN_le S L cnt yd b c
    refine wp_sound (by rw [hi]; exact ok_X4_judge) (hd := [7, 25, 43, 96, 126, 132, 156, 180, 222]) 400 _ _ _ _ _ _ ?_
    simp (disch := omega) only [wp, stp, List.mem_cons, List.not_mem_nil, Nat.reduceEqDiff, or_false, or_self, false_or, or_true, true_or, Nat.reduceAdd, ↓reduceIte, List.getElem?_cons_zero, List.getElem?_cons_succ, nthV, List.set_cons_zero, List.set_cons_succ, noL, popA, catS, Value.category, List.length_cons, List.length_nil, Nat.reduceLT, Nat.reduceLeDiff, true_and, and_true, one0, zer1, imp_t, imp_f, ofN_nI, sdead, f20, f21, not_true_eq_false, upC_self, upC_ne, upC_upC, retC, fitC, isRefT, Option.toList_some, Option.toList_none, List.cons_append, List.nil_append, Nat.lt_add_one, Nat.zero_lt_succ, Nat.le_refl, Nat.add_zero, Nat.zero_add, Nat.one_ne_zero, Nat.zero_ne_one, Nat.lt_irrefl, List.length_set, fa_X4_judge, hi, hd, hQ, mr_X4_judge, p1]
    refine ⟨by omega, _, t_bestBy hG (by omega) hB h36 h49 (by omega) hsep hY hP' hbi hci, ?_⟩
    rintro v n1 z1 f1 ⟨rfl, hP1, hF1, hn1⟩
    obtain ⟨⟨hW1, -⟩, py1, bs1, ⟨p1', -⟩, -, -⟩ := id hP1
    have c1 := hW1.1.1
    have hFF := hF'.trans hn' hF1
    cases hbb : b with
    | none =>
      rw [hbb] at h169 h197 hbl rA
      refine wp_sound (by rw [hi]; exact ok_X4_judge) (hd := [7, 25, 43, 96, 126, 132, 156, 169, 180, 197, 222]) 400 _ _ _ _ _ _ ?_
      simp (disch := omega) only [wp, stp, List.mem_cons, List.not_mem_nil, Nat.reduceEqDiff, or_false, or_self, false_or, or_true, true_or, Nat.reduceAdd, ↓reduceIte, List.getElem?_cons_zero, List.getElem?_cons_succ, nthV, List.set_cons_zero, List.set_cons_succ, noL, popA, catS, Value.category, List.length_cons, List.length_nil, Nat.reduceLT, Nat.reduceLeDiff, true_and, and_true, one0, zer1, imp_t, imp_f, ofN_nI, sdead, f20, f21, not_true_eq_false, upC_self, upC_ne, upC_upC, retC, fitC, isRefT, Option.toList_some, Option.toList_none, List.cons_append, List.nil_append, Nat.lt_add_one, Nat.zero_lt_succ, Nat.le_refl, Nat.add_zero, Nat.zero_add, Nat.one_ne_zero, Nat.zero_ne_one, Nat.lt_irrefl, List.length_set, fa_X4_judge, hi, hd, hQ, mr_X4_judge, p1', c1, efi]
      rw [sub_gt (by omega) (by omega) (by omega)]
      refine ⟨fun h => h197 _ _ _ _ hP1 hFF (by omega) (fun q => h (rA.mpr q.1)), fun h => ⟨fun _ => h169 _ _ _ _ hP1 hFF (by omega) (rA.mp (Decidable.not_not.mp h)) (fun q' hq' => by cases hq'), fun h => absurd rfl h⟩⟩
    | some b' =>
      have hb' : b' < cnt := by rw [hbb] at hb; exact hb.1
      have rB' := rB b' hbb
      have hbl2 := bestN_le S L cnt yd (some a) c
      have eqb : eO (some b') = eO b := by rw [hbb]
      rw [← hbb]
      refine wp_sound (by rw [hi]; exact ok_X4_judge) (hd := [7, 25, 43, 96, 126, 132, 156, 169, 180, 197, 222]) 400 _ _ _ _ _ _ ?_
      simp (disch := omega) only [wp, stp, List.mem_cons, List.not_mem_nil, Nat.reduceEqDiff, or_false, or_self, false_or, or_true, true_or, Nat.reduceAdd, ↓reduceIte, List.getElem?_cons_zero, List.getElem?_cons_succ, nthV, List.set_cons_zero, List.set_cons_succ, noL, popA, catS, Value.category, List.length_cons, List.length_nil, Nat.reduceLT, Nat.reduceLeDiff, true_and, and_true, one0, zer1, imp_t, imp_f, ofN_nI, sdead, f20, f21, not_true_eq_false, upC_self, upC_ne, upC_upC, retC, fitC, isRefT, Option.toList_some, Option.toList_none, List.cons_append, List.nil_append, Nat.lt_add_one, Nat.zero_lt_succ, Nat.le_refl, Nat.add_zero, Nat.zero_add, Nat.one_ne_zero, Nat.zero_ne_one, Nat.lt_irrefl, List.length_set, fa_X4_judge, hi, hd, hQ, mr_X4_judge, p1', c1, efi]
      rw [sub_gt (by omega) (by omega) (by omega)]
      refine ⟨fun h => h197 _ _ _ _ hP1 hFF (by omega) (fun q => h (rA.mpr q.1)), fun h => ⟨fun h2 => absurd h2 (by rw [hbb]; show ¬ nI b' = -1; rw [nI_em (by omega)]; exact id), fun _ => ⟨by omega, _, t_bestBy hG (by omega) hB h36 h49 (by omega) hsep hY hP1 hai hci, ?_⟩⟩⟩
      rintro v n2 z2 f2 ⟨rfl, hP2, hF2, hn2⟩
      obtain ⟨⟨hW2, -⟩, py2, bs2, ⟨p2', -⟩, -, -⟩ := id hP2
      have c2 := hW2.1.1
      refine wp_sound (by rw [hi]; exact ok_X4_judge) (hd := [7, 25, 43, 96, 126, 132, 156, 169, 180, 197, 222]) 400 _ _ _ _ _ _ ?_
      simp (disch := omega) only [wp, stp, List.mem_cons, List.not_mem_nil, Nat.reduceEqDiff, or_false, or_self, false_or, or_true, true_or, Nat.reduceAdd, ↓reduceIte, List.getElem?_cons_zero, List.getElem?_cons_succ, nthV, List.set_cons_zero, List.set_cons_succ, noL, popA, catS, Value.category, List.length_cons, List.length_nil, Nat.reduceLT, Nat.reduceLeDiff, true_and, and_true, one0, zer1, imp_t, imp_f, ofN_nI, sdead, f20, f21, not_true_eq_false, upC_self, upC_ne, upC_upC, retC, fitC, isRefT, Option.toList_some, Option.toList_none, List.cons_append, List.nil_append, Nat.lt_add_one, Nat.zero_lt_succ, Nat.le_refl, Nat.add_zero, Nat.zero_add, Nat.one_ne_zero, Nat.zero_ne_one, Nat.lt_irrefl, List.length_set, fa_X4_judge, hi, hd, hQ, mr_X4_judge, p2', c2, efi]
      rw [sub_gt (by omega) (by omega) (by omega)]
      refine ⟨fun h3 => h197 _ _ _ _ hP2 (hFF.trans (by omega) hF2) (by omega) (fun q => h3 (rB'.mpr (q.2.1 _ (by rw [hbb]; rfl)))), fun h3 => h169 _ _ _ _ hP2 (hFF.trans (by omega) hF2) (by omega) (rA.mp (Decidable.not_not.mp h)) (fun q' hq' => ?_)⟩
      rw [hbb] at hq'
      cases hq'
      exact rB'.mp (Decidable.not_not.mp h3)
  have o1 : tp + 1 < 1000000 := by omega
  have h96 : ∀ n' z' g u8, PWd S L lp N Z K tp cnt yd an1 pl g n' z' → FRB FP tp 5 f n g → n ≤ n' → V G X 96 [.ref tp, .int (nI a), .int (eO b), .int (eO c), .int (nI oA), .int (nI oB), .int (nI oC), .int (nI sm), u8] [] n' z' g := by
    intro n' z' g u8 hP' hF' hn'
    obtain ⟨-, py, bs, hPL, -, -⟩ := id hP'
    obtain ⟨p1, p2, p3, p4, p5⟩ := id hPL
    have c0 : (20 : Int32).toNatClampNeg = 20 := rfl
    have i0 : vp_in (20 : Int32) 24 := (vin_nI (i := 20) (by omega)).mpr (by omega)
    refine wp_sound (by rw [hi]; exact ok_X4_judge) (hd := [7, 25, 43, 96, 126, 132, 156, 180, 222]) 400 _ _ _ _ _ _ ?_
    simp (disch := omega) only [wp, stp, List.mem_cons, List.not_mem_nil, Nat.reduceEqDiff, or_false, or_self, false_or, or_true, true_or, Nat.reduceAdd, ↓reduceIte, List.getElem?_cons_zero, List.getElem?_cons_succ, nthV, List.set_cons_zero, List.set_cons_succ, noL, popA, catS, Value.category, List.length_cons, List.length_nil, Nat.reduceLT, Nat.reduceLeDiff, true_and, and_true, one0, zer1, imp_t, imp_f, ofN_nI, sdead, f20, f21, not_true_eq_false, upC_self, upC_ne, upC_upC, retC, fitC, isRefT, Option.toList_some, Option.toList_none, List.cons_append, List.nil_append, Nat.lt_add_one, Nat.zero_lt_succ, Nat.le_refl, Nat.add_zero, Nat.zero_add, Nat.one_ne_zero, Nat.zero_ne_one, Nat.lt_irrefl, List.length_set, fa_X4_judge, hi, hd, hQ, mr_X4_judge, p1, p2, c0, o1]
    refine ⟨i0, fun h => h126 _ _ _ _ ?_ hF' hn', fun h => ⟨i0, by omega, _, nR _ n' z' 20 (upd an1 20 (nI sm)) py bs ⟨?_, upC_self _ _ _, ?_, ?_, ?_⟩ (by omega), ?_⟩⟩
    · rw [han2, show jd2 an1 r0 r1 r2 (nI sm) = an1 from if_neg (Int32.not_lt.mpr h)]; exact hP'
    · rw [upC_ne _ _ (by omega)]; exact p1
    · rw [upC_ne _ _ (by omega)]; exact p3
    · rw [upC_ne _ _ (by omega)]; exact p4
    · rw [upC_ne _ _ (by omega)]; exact p5
    · rintro v n1 z1 f1 ⟨rfl, rfl, rfl, rfl⟩
      rw [upC_upC]
      have e2 : an2 = ntR (upd an1 20 (nI sm)) 20 r0 r1 r2 := by rw [han2]; exact if_pos (Int32.not_le.mp h)
      exact h126 _ _ _ _ (by rw [← e2]; exact hP'.an h49 (by omega) hsep) (hF'.bl h49 (by omega) (by omega)) hn'
  have h43 : ∀ n' z' g u6 u7 u8, PWd S L lp N Z K tp cnt yd an pl g n' z' → FRB FP tp 5 f n g → n ≤ n' → V G X 43 [.ref tp, .int (nI a), .int (eO b), .int (eO c), .int (nI oA), .int (nI oB), u6, u7, u8] [.int (nI oC)] n' z' g := by
    intro n' z' g u6 u7 u8 hP' hF' hn'
    obtain ⟨-, py, bs, hPL, -, -⟩ := id hP'
    obtain ⟨p1, p2, p3, p4, p5⟩ := id hPL
    have c0 : (10 : Int32).toNatClampNeg = 10 := rfl
    have i0 : vp_in (10 : Int32) 24 := (vin_nI (i := 10) (by omega)).mpr (by omega)
    have es : nI oA + nI oB + nI oC = nI sm := by rw [nI_add, nI_add, esm]
    have h78 : (an 10 = -1 ∨ nI sm < an 10) → V G X 78 [.ref tp, .int (nI a), .int (eO b), .int (eO c), .int (nI oA), .int (nI oB), .int (nI oC), .int (nI sm), u8] [] n' z' g := by
      intro hq
      refine wp_sound (by rw [hi]; exact ok_X4_judge) (hd := [7, 25, 43, 96, 126, 132, 156, 180, 222]) 400 _ _ _ _ _ _ ?_
      simp (disch := omega) only [wp, stp, List.mem_cons, List.not_mem_nil, Nat.reduceEqDiff, or_false, or_self, false_or, or_true, true_or, Nat.reduceAdd, ↓reduceIte, List.getElem?_cons_zero, List.getElem?_cons_succ, nthV, List.set_cons_zero, List.set_cons_succ, noL, popA, catS, Value.category, List.length_cons, List.length_nil, Nat.reduceLT, Nat.reduceLeDiff, true_and, and_true, one0, zer1, imp_t, imp_f, ofN_nI, sdead, f20, f21, not_true_eq_false, upC_self, upC_ne, upC_upC, retC, fitC, isRefT, Option.toList_some, Option.toList_none, List.cons_append, List.nil_append, Nat.lt_add_one, Nat.zero_lt_succ, Nat.le_refl, Nat.add_zero, Nat.zero_add, Nat.one_ne_zero, Nat.zero_ne_one, Nat.lt_irrefl, List.length_set, fa_X4_judge, hi, hd, hQ, mr_X4_judge, p1, p2, c0, o1]
      refine ⟨i0, by omega, _, nR _ n' z' 10 (upd an 10 (nI sm)) py bs ⟨?_, upC_self _ _ _, ?_, ?_, ?_⟩ (by omega), ?_⟩
      · rw [upC_ne _ _ (by omega)]; exact p1
      · rw [upC_ne _ _ (by omega)]; exact p3
      · rw [upC_ne _ _ (by omega)]; exact p4
      · rw [upC_ne _ _ (by omega)]; exact p5
      · rintro v n1 z1 f1 ⟨rfl, rfl, rfl, rfl⟩
        rw [upC_upC]
        have e2 : an1 = ntR (upd an 10 (nI sm)) 10 r0 r1 r2 := by rw [han1]; exact if_pos hq
        exact h96 _ _ _ _ (by rw [← e2]; exact hP'.an h49 (by omega) hsep) (hF'.bl h49 (by omega) (by omega)) hn'
    refine wp_sound (by rw [hi]; exact ok_X4_judge) (hd := [7, 25, 43, 78, 96, 126, 132, 156, 180, 222]) 400 _ _ _ _ _ _ ?_
    simp (disch := omega) only [wp, stp, List.mem_cons, List.not_mem_nil, Nat.reduceEqDiff, or_false, or_self, false_or, or_true, true_or, Nat.reduceAdd, ↓reduceIte, List.getElem?_cons_zero, List.getElem?_cons_succ, nthV, List.set_cons_zero, List.set_cons_succ, noL, popA, catS, Value.category, List.length_cons, List.length_nil, Nat.reduceLT, Nat.reduceLeDiff, true_and, and_true, one0, zer1, imp_t, imp_f, ofN_nI, sdead, f20, f21, not_true_eq_false, upC_self, upC_ne, upC_upC, retC, fitC, isRefT, Option.toList_some, Option.toList_none, List.cons_append, List.nil_append, Nat.lt_add_one, Nat.zero_lt_succ, Nat.le_refl, Nat.add_zero, Nat.zero_add, Nat.one_ne_zero, Nat.zero_ne_one, Nat.lt_irrefl, List.length_set, fa_X4_judge, hi, hd, hQ, mr_X4_judge, p1, p2, c0, o1, es]
    refine ⟨i0, fun h => h78 (Or.inl h), fun h => ⟨i0, fun h2 => h96 _ _ _ _ ?_ hF' hn', fun h2 => h78 (Or.inr (Int32.not_le.mp h2))⟩⟩
    rw [han1, show jd1 an r0 r1 r2 (nI sm) = an from if_neg (fun q => by rcases q with q | q; exact h q; exact absurd q (Int32.not_lt.mpr h2))]
    exact hP'
  have h25 : ∀ n' z' g u5 u6 u7 u8, PWd S L lp N Z K tp cnt yd an pl g n' z' → FRB FP tp 5 f n g → n ≤ n' → V G X 25 [.ref tp, .int (nI a), .int (eO b), .int (eO c), .int (nI oA), u5, u6, u7, u8] [.int (nI oB)] n' z' g := by
    intro n' z' g u5 u6 u7 u8 hP' hF' hn'
    cases hcc : c with
    | none =>
      have e0 : oC = 0 := by rw [hoC, hcc]; rfl
      rw [hcc, e0] at h43
      refine wp_sound (by rw [hi]; exact ok_X4_judge) (hd := [7, 25, 43, 96, 126, 132, 156, 180, 222]) 400 _ _ _ _ _ _ ?_
      simp (disch := omega) only [wp, stp, List.mem_cons, List.not_mem_nil, Nat.reduceEqDiff, or_false, or_self, false_or, or_true, true_or, Nat.reduceAdd, ↓reduceIte, List.getElem?_cons_zero, List.getElem?_cons_succ, nthV, List.set_cons_zero, List.set_cons_succ, noL, popA, catS, Value.category, List.length_cons, List.length_nil, Nat.reduceLT, Nat.reduceLeDiff, true_and, and_true, one0, zer1, imp_t, imp_f, ofN_nI, sdead, f20, f21, not_true_eq_false, upC_self, upC_ne, upC_upC, retC, fitC, isRefT, Option.toList_some, Option.toList_none, List.cons_append, List.nil_append, Nat.lt_add_one, Nat.zero_lt_succ, Nat.le_refl, Nat.add_zero, Nat.zero_add, Nat.one_ne_zero, Nat.zero_ne_one, Nat.lt_irrefl, List.length_set, fa_X4_judge, hi, hd, hQ, mr_X4_judge]
      exact ⟨fun h => absurd rfl h, fun _ => h43 _ _ _ _ _ _ hP' hF' hn'⟩
    | some c' =>
      have hc' : c' < cnt := by rw [hcc] at hc; exact hc.1
      have hca : ¬ c' = a := by rw [hcc] at hc; exact hc.2
      obtain ⟨⟨hW', hl'⟩, py, bs, hPL, hpy, hbs⟩ := id hP'
      obtain ⟨p1, p2, p3, p4, p5⟩ := id hPL
      have eq1 : eO (some c') = nI c' := rfl
      rw [hcc, eq1] at h43
      rw [eq1]
      refine wp_sound (by rw [hi]; exact ok_X4_judge) (hd := [7, 25, 43, 96, 126, 132, 156, 180, 222]) 400 _ _ _ _ _ _ ?_
      simp (disch := omega) only [wp, stp, List.mem_cons, List.not_mem_nil, Nat.reduceEqDiff, or_false, or_self, false_or, or_true, true_or, Nat.reduceAdd, ↓reduceIte, List.getElem?_cons_zero, List.getElem?_cons_succ, nthV, List.set_cons_zero, List.set_cons_succ, noL, popA, catS, Value.category, List.length_cons, List.length_nil, Nat.reduceLT, Nat.reduceLeDiff, true_and, and_true, one0, zer1, imp_t, imp_f, ofN_nI, sdead, f20, f21, not_true_eq_false, upC_self, upC_ne, upC_upC, retC, fitC, isRefT, Option.toList_some, Option.toList_none, List.cons_append, List.nil_append, Nat.lt_add_one, Nat.zero_lt_succ, Nat.le_refl, Nat.add_zero, Nat.zero_add, Nat.one_ne_zero, Nat.zero_ne_one, Nat.lt_irrefl, List.length_set, fa_X4_judge, hi, hd, hQ, mr_X4_judge, p1]
      refine ⟨fun _ => ⟨by omega, _, t_plPayAt hG (by omega) hB h36 hW' hl' h49 (by omega) hsep hPL hY hpy hc' (a := some a) (b := b) ⟨ha, fun q => hca q.symm⟩ ?_, ?_⟩, fun h => absurd h (by rw [nI_em (by omega)]; exact id)⟩
      · cases hbb : b with
        | none => trivial
        | some b' => rw [hbb] at hb; exact ⟨hb.1, hbc b' c' hbb hcc⟩
      · rintro v n1 z1 f1 ⟨rfl, hW1, hl1, ⟨py1, hPL1, hpy1⟩, hF1, hn1⟩
        have e0 : oC = ppN S L (yd c') ((some a).map yd) (b.map yd) := by rw [hoC, hcc]; rfl
        rw [← e0]
        exact h43 _ _ _ _ _ _ ⟨⟨hW1, hl1⟩, py1, bs, hPL1, hpy1, hbs⟩ (hF'.trans hn' hF1) (by omega)
  obtain ⟨⟨hW', hl'⟩, py, bs, hPL, hpy, hbs⟩ := id hP
  obtain ⟨p1, p2, p3, p4, p5⟩ := id hPL
  refine wp_sound (by rw [hi]; exact ok_X4_judge) (hd := [7, 25, 43, 96, 126, 132, 156, 180, 222]) 400 _ _ _ _ _ _ ?_
  simp (disch := omega) only [wp, stp, List.mem_cons, List.not_mem_nil, Nat.reduceEqDiff, or_false, or_self, false_or, or_true, true_or, Nat.reduceAdd, ↓reduceIte, List.getElem?_cons_zero, List.getElem?_cons_succ, nthV, List.set_cons_zero, List.set_cons_succ, noL, popA, catS, Value.category, List.length_cons, List.length_nil, Nat.reduceLT, Nat.reduceLeDiff, true_and, and_true, one0, zer1, imp_t, imp_f, ofN_nI, sdead, f20, f21, not_true_eq_false, upC_self, upC_ne, upC_upC, retC, fitC, isRefT, Option.toList_some, Option.toList_none, List.cons_append, List.nil_append, Nat.lt_add_one, Nat.zero_lt_succ, Nat.le_refl, Nat.add_zero, Nat.zero_add, Nat.one_ne_zero, Nat.zero_ne_one, Nat.lt_irrefl, List.length_set, fa_X4_judge, hi, hd, hQ, mr_X4_judge, p1]
  refine ⟨by omega, _, t_plPayAt hG (by omega) hB h36 hW' hl' h49 hn5 hsep hPL hY hpy ha hb hc, ?_⟩
  rintro v n1 z1 f1 ⟨rfl, hW1, hl1, ⟨py1, hPL1, hpy1⟩, hF1, hn1⟩
  rw [← hoA]
  cases hbb : b with
  | none =>
    have e0 : oB = 0 := by rw [hoB, hbb]; rfl
    rw [hbb, e0] at h25
    refine wp_sound (by rw [hi]; exact ok_X4_judge) (hd := [7, 25, 43, 96, 126, 132, 156, 180, 222]) 400 _ _ _ _ _ _ ?_
    simp (disch := omega) only [wp, stp, List.mem_cons, List.not_mem_nil, Nat.reduceEqDiff, or_false, or_self, false_or, or_true, true_or, Nat.reduceAdd, ↓reduceIte, List.getElem?_cons_zero, List.getElem?_cons_succ, nthV, List.set_cons_zero, List.set_cons_succ, noL, popA, catS, Value.category, List.length_cons, List.length_nil, Nat.reduceLT, Nat.reduceLeDiff, true_and, and_true, one0, zer1, imp_t, imp_f, ofN_nI, sdead, f20, f21, not_true_eq_false, upC_self, upC_ne, upC_upC, retC, fitC, isRefT, Option.toList_some, Option.toList_none, List.cons_append, List.nil_append, Nat.lt_add_one, Nat.zero_lt_succ, Nat.le_refl, Nat.add_zero, Nat.zero_add, Nat.one_ne_zero, Nat.zero_ne_one, Nat.lt_irrefl, List.length_set, fa_X4_judge, hi, hd, hQ, mr_X4_judge]
    exact ⟨fun h => absurd rfl h, fun _ => h25 _ _ _ _ _ _ _ ⟨⟨hW1, hl1⟩, py1, bs, hPL1, hpy1, hbs⟩ hF1 hn1⟩
  | some b' =>
    have hb' : b' < cnt := by rw [hbb] at hb; exact hb.1
    have hba : ¬ b' = a := by rw [hbb] at hb; exact hb.2
    obtain ⟨p1, -⟩ := id hPL1
    have eq1 : eO (some b') = nI b' := rfl
    rw [hbb, eq1] at h25
    rw [eq1]
    refine wp_sound (by rw [hi]; exact ok_X4_judge) (hd := [7, 25, 43, 96, 126, 132, 156, 180, 222]) 400 _ _ _ _ _ _ ?_
    simp (disch := omega) only [wp, stp, List.mem_cons, List.not_mem_nil, Nat.reduceEqDiff, or_false, or_self, false_or, or_true, true_or, Nat.reduceAdd, ↓reduceIte, List.getElem?_cons_zero, List.getElem?_cons_succ, nthV, List.set_cons_zero, List.set_cons_succ, noL, popA, catS, Value.category, List.length_cons, List.length_nil, Nat.reduceLT, Nat.reduceLeDiff, true_and, and_true, one0, zer1, imp_t, imp_f, ofN_nI, sdead, f20, f21, not_true_eq_false, upC_self, upC_ne, upC_upC, retC, fitC, isRefT, Option.toList_some, Option.toList_none, List.cons_append, List.nil_append, Nat.lt_add_one, Nat.zero_lt_succ, Nat.le_refl, Nat.add_zero, Nat.zero_add, Nat.one_ne_zero, Nat.zero_ne_one, Nat.lt_irrefl, List.length_set, fa_X4_judge, hi, hd, hQ, mr_X4_judge, p1]
    refine ⟨fun _ => ⟨by omega, _, t_plPayAt hG (by omega) hB h36 hW1 hl1 h49 (by omega) hsep hPL1 hY hpy1 hb' (a := some a) (b := c) ⟨ha, fun q => hba q.symm⟩ ?_, ?_⟩, fun h => absurd h (by rw [nI_em (by omega)]; exact id)⟩
    · cases hcc : c with
      | none => trivial
      | some c' => rw [hcc] at hc; exact ⟨hc.1, fun q => hbc b' c' hbb hcc q.symm⟩
    · rintro v n2 z2 f2 ⟨rfl, hW2, hl2, ⟨py2, hPL2, hpy2⟩, hF2, hn2⟩
      have e0 : oB = ppN S L (yd b') ((some a).map yd) (c.map yd) := by rw [hoB, hbb]; rfl
      rw [← e0]
      exact h25 _ _ _ _ _ _ _ ⟨⟨hW2, hl2⟩, py2, bs, hPL2, hpy2, hbs⟩ (hF1.trans hn1 hF2) (by omega)
end Pl3
