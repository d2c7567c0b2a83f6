-- Placings: the places, all placings
set_option maxRecDepth 100000
set_option maxHeartbeats 4000000
def fY {α : Type} (g : Nat → Prop) [DecidablePred g] (F : α → Nat → α) : Nat → Nat → α → α
  | 0, _, acc => acc
  | k + 1, c, acc => fY g F k (c + 1) (if g c then F acc c else acc)
theorem fY_skip {α : Type} {g : Nat → Prop} [DecidablePred g] {F : α → Nat → α} {acc : α} : ∀ (j c0 : Nat), c0 + j ≤ 100 → (∀ c, c0 ≤ c → c < c0 + j → ¬ g c) → fY g F (100 - c0) c0 acc = fY g F (100 - (c0 + j)) (c0 + j) acc
  | 0, c0, _, _ => rfl
  | j + 1, c0, h, hs => by
    rw [show 100 - c0 = (100 - (c0 + 1)) + 1 by omega, fY, if_neg (hs c0 (by omega) (by omega)), fY_skip j (c0 + 1) (by omega) (fun c h1 h2 => hs c (by omega) (by omega)), show c0 + 1 + j = c0 + (j + 1) by omega]
theorem fY_yes {α : Type} {g : Nat → Prop} [DecidablePred g] {F : α → Nat → α} {acc : α} {c : Nat} (hc : c < 100) (h : g c) : fY g F (100 - c) c acc = fY g F (99 - c) (c + 1) (F acc c) := by
  rw [show 100 - c = (99 - c) + 1 by omega, fY, if_pos h]
noncomputable def plS (S : Sta) (L : Lw) (k : Nat) (an : Nat → Int32) : Nat → Int32 :=
  if k = 1 then fY (gsN S) (fun an p => jdA S L an p none none) 100 0 an
  else if k = 2 then fY (gsN S) (fun an p => fY (gsN S) (fun an q => jdA S L an p (some q) none) (99 - p) (p + 1) an) 100 0 an
  else fY (gsN S) (fun an p => fY (gsN S) (fun an q => fY (gsN S) (fun an r => jdA S L an p (some q) (some r)) (99 - q) (q + 1) an) (99 - p) (p + 1) an) 100 0 an
def nx (cnt : Nat) (yd : Nat → Nat) (i : Nat) : Nat := if i < cnt then yd i else 100
section Nx
variable {S : Sta} {cnt : Nat} {pl : Nat → Int32} {yd : Nat → Nat} {α : Type} {F : α → Nat → α} {acc : α}
theorem nx_gap (hY : PlY S pl cnt yd) (hA : PlA S cnt yd) {i : Nat} (hi : i < cnt) : ∀ c, yd i + 1 ≤ c → c < nx cnt yd (i + 1) → ¬ gsN S c := by
  intro c h1 h2 hg
  obtain ⟨j, hj, rfl⟩ := hA c hg
  by_cases e : i < j
  · unfold nx at h2
    by_cases q : i + 1 < cnt
    · rw [if_pos q] at h2
      by_cases e2 : i + 1 = j
      · rw [e2] at h2; omega
      · have := hY.2.2 (i + 1) j q hj (by omega); omega
    · omega
  · by_cases e2 : i = j
    · rw [e2] at h1; omega
    · have := hY.2.2 j i hj hi (by omega); omega
theorem nx_le (hY : PlY S pl cnt yd) {i : Nat} (hi : i < cnt) : yd i + 1 ≤ nx cnt yd (i + 1) ∧ nx cnt yd (i + 1) ≤ 100 := by
  have h1 := (hY.2.1 i hi).2.1.1
  unfold nx
  by_cases q : i + 1 < cnt
  · rw [if_pos q]
    have := hY.2.2 i (i + 1) hi q (by omega)
    have := (hY.2.1 (i + 1) q).2.1.1
    omega
  · rw [if_neg q]; omega
theorem fY_in (hY : PlY S pl cnt yd) (hA : PlA S cnt yd) {i : Nat} (hi : i < cnt) : fY (gsN S) F (99 - yd i) (yd i + 1) acc = fY (gsN S) F (100 - nx cnt yd (i + 1)) (nx cnt yd (i + 1)) acc := by
  obtain ⟨h1, h2⟩ := nx_le hY hi
  have := fY_skip (g := gsN S) (F := F) (acc := acc) (nx cnt yd (i + 1) - (yd i + 1)) (yd i + 1) (by omega) (fun c a b => nx_gap hY hA hi c a (by omega))
  rw [show yd i + 1 + (nx cnt yd (i + 1) - (yd i + 1)) = nx cnt yd (i + 1) by omega, show 100 - (yd i + 1) = 99 - yd i by omega] at this
  exact this
theorem fY_at (hY : PlY S pl cnt yd) (hA : PlA S cnt yd) {i : Nat} (hi : i < cnt) : fY (gsN S) F (100 - nx cnt yd i) (nx cnt yd i) acc = fY (gsN S) F (100 - nx cnt yd (i + 1)) (nx cnt yd (i + 1)) (F acc (yd i)) := by
  rw [show nx cnt yd i = yd i from if_pos hi, fY_yes (hY.2.1 i hi).2.1.1 (hY.2.1 i hi).2, fY_in hY hA hi]
theorem fY_0 (hY : PlY S pl cnt yd) (hA : PlA S cnt yd) : fY (gsN S) F 100 0 acc = fY (gsN S) F (100 - nx cnt yd 0) (nx cnt yd 0) acc := by
  have hle : nx cnt yd 0 ≤ 100 := by
    unfold nx; split
    · next q => have := (hY.2.1 0 q).2.1.1; omega
    · exact Nat.le_refl _
  have := fY_skip (g := gsN S) (F := F) (acc := acc) (nx cnt yd 0) 0 (by omega) (fun c a b hg => by
    obtain ⟨j, hj, rfl⟩ := hA c hg
    unfold nx at b
    rw [if_pos (by omega)] at b
    by_cases e : j = 0
    · rw [e] at b; omega
    · have := hY.2.2 0 j (by omega) hj (by omega); omega)
  rw [Nat.zero_add] at this
  exact this
theorem fY_e : fY (gsN S) F (100 - nx cnt yd cnt) (nx cnt yd cnt) acc = acc := by
  rw [show nx cnt yd cnt = 100 from if_neg (Nat.lt_irrefl _)]; rfl
end Nx
def cdN (S : Sta) (x : Nat) : Nat := x / 10 * wdt S + x % 10
theorem cdN_lt {S : Sta} {x : Nat} (h : gsN S x) : cdN S x < wdt S * hgt S := by
  obtain ⟨⟨-, h1, h2⟩, -⟩ := h
  have : (x / 10 + 1) * wdt S ≤ hgt S * wdt S := Nat.mul_le_mul_right _ (by omega)
  rw [Nat.add_mul, Nat.one_mul, Nat.mul_comm (hgt S)] at this
  unfold cdN; omega
theorem cdN_inj {S : Sta} {x y : Nat} (hx : gsN S x) (hy : gsN S y) (h : cdN S x = cdN S y) : x = y := by
  obtain ⟨⟨-, i1, i2⟩, -⟩ := hx
  obtain ⟨⟨-, j1, j2⟩, -⟩ := hy
  unfold cdN at h
  have e1 : x % 10 = y % 10 := by
    have q1 : (x % 10 + x / 10 * wdt S) % wdt S = x % 10 := by rw [Nat.add_mul_mod_self_right, Nat.mod_eq_of_lt i1]
    have q2 : (y % 10 + y / 10 * wdt S) % wdt S = y % 10 := by rw [Nat.add_mul_mod_self_right, Nat.mod_eq_of_lt j1]
    rw [← q1, ← q2, Nat.add_comm, h, Nat.add_comm]
  have e2 : x / 10 = y / 10 := by
    have q : x / 10 * wdt S = y / 10 * wdt S := by omega
    exact Nat.eq_of_mul_eq_mul_right (by omega) q
  omega
/-- the places up to a yard -/
def PI (S : Sta) (y : Nat) (pl : Nat → Int32) (c : Nat) (yd : Nat → Nat) : Prop := (c ≤ 36 ∧ c = cnt1 (gsN S) y) ∧ (∀ i, i < c → pl i = nI (yd i) ∧ gsN S (yd i) ∧ yd i < y) ∧ (∀ i j, i < c → j < c → i < j → yd i < yd j) ∧ ∀ x, x < y → gsN S x → ∃ i, i < c ∧ yd i = x
theorem PI.more {S : Sta} {y c x : Nat} {pl : Nat → Int32} {yd : Nat → Nat} (h : PI S y pl c yd) (hx : gsN S x) (hy : y ≤ x) : c + 1 ≤ wdt S * hgt S := by
  obtain ⟨-, h2, h3, -⟩ := h
  refine holes (wdt S * hgt S) (c + 1) (fun i => cdN S (if i < c then yd i else x)) (fun i hi => ?_) (fun i j hi hj he => ?_)
  · show cdN S (if i < c then yd i else x) < _
    split
    · next q => exact cdN_lt (h2 i q).2.1
    · exact cdN_lt hx
  · have he : cdN S (if i < c then yd i else x) = cdN S (if j < c then yd j else x) := he
    by_cases q1 : i < c <;> by_cases q2 : j < c
    · rw [if_pos q1, if_pos q2] at he
      have e := cdN_inj (h2 i q1).2.1 (h2 j q2).2.1 he
      rcases Nat.lt_trichotomy i j with r | r | r
      · have := h3 i j q1 q2 r; omega
      · exact r
      · have := h3 j i q2 q1 r; omega
    · rw [if_pos q1, if_neg q2] at he
      have e := cdN_inj (h2 i q1).2.1 hx he
      have := (h2 i q1).2.2; omega
    · rw [if_neg q1, if_pos q2] at he
      have e := cdN_inj hx (h2 j q2).2.1 he
      have := (h2 j q2).2.2; omega
    · omega
theorem cnt1_skip {p : Nat → Prop} [DecidablePred p] : ∀ (j y : Nat), (∀ c, y ≤ c → c < y + j → ¬ p c) → cnt1 p (y + j) = cnt1 p y
  | 0, _, _ => rfl
  | j + 1, y, h => by
    show cnt1 p (y + j) + (if p (y + j) then 1 else 0) = _
    rw [if_neg (h (y + j) (by omega) (by omega)), cnt1_skip j y (fun c h1 h2 => h c h1 (by omega)), Nat.add_zero]
theorem PI.full {S : Sta} {y : Nat} {pl : Nat → Int32} {yd : Nat → Nat} (h : PI S y pl 36 yd) (h36 : wdt S * hgt S ≤ 36) (hy : y ≤ 100) : PI S 100 pl 36 yd := by
  have hn : ∀ c, y ≤ c → ¬ gsN S c := fun c hc hg => by have := h.more hg hc; omega
  obtain ⟨⟨h1, h1'⟩, h2, h3, h4⟩ := h
  refine ⟨⟨h1, ?_⟩, fun i hi => ⟨(h2 i hi).1, (h2 i hi).2.1, by have := (h2 i hi).2.2; omega⟩, h3, fun x hx hg => ?_⟩
  · have := cnt1_skip (p := gsN S) (100 - y) y (fun c a _ => hn c a)
    rw [show y + (100 - y) = 100 by omega] at this
    rw [this]; exact h1'
  · by_cases q : x < y
    · exact h4 x q hg
    · exact absurd hg (hn x (by omega))
def an00 (an : Nat → Int32) : Prop := ∀ j, j < 24 → an j = if j = 0 then 0 else -1
section Pl4
variable {G : Gam} {d n z lp N Z K tp : Nat} {f : Mf} {S : Sta} {L : Lw}
theorem t_prepare (hG : Ok G) (hd1 : 3 ≤ d) (hB : Bd S) (h36 : wdt S * hgt S ≤ 36) (h49 : 49 ≤ tp) (hn5 : tp + 5 ≤ n) (hsep : lp + 1 < tp ∨ tp + 4 < lp) (hW : CW S L lp N Z K f n z) (hl : LwP f lp L) {an pl py bs : Nat → Int32} {cn : Int32} (hPL : PL f tp an pl cn py bs) : Tr G d 50 [.ref tp] n z f (fun v n' z' f' => v = none ∧ n' = n ∧ z' = z ∧ ∃ cnt yd an' pl', cnt = cnt1 (gsN S) 100 ∧ an00 an' ∧ PlY S pl' cnt yd ∧ PlA S cnt yd ∧ PWd S L lp N Z K tp cnt yd an' pl' f' n z ∧ FRB [] tp 5 f n f') := by
  have hnle : n ≤ 600000 := by
    have hCAP : CAP = 600000 := rfl
    have := hW.2.2.1; obtain ⟨g1, g2, -, -, -, w4, -⟩ := hW.2.2.2.2.2.2; omega
  obtain ⟨p1, p2, p3, p4, p5⟩ := id hPL
  have o0 : tp < 1000000 := by omega
  have o1 : tp + 1 < 1000000 := by omega
  have o2 : tp + 2 < 1000000 := by omega
  refine Tr.of2 (ls0 := [.ref tp, dead]) hG mo_X4_prepare (Nat.le_of_ble_eq_true rfl) rfl ?_
  intro X hi hd hXn hXz hXf hQ
  refine wp_sound (by rw [hi]; exact ok_X4_prepare) (hd := [8, 16, 24, 38, 61]) 400 _ _ _ _ _ _ ?_
  simp (disch := omega) only [wp, stp, List.mem_cons, List.not_mem_nil, Nat.reduceEqDiff, or_false, or_self, false_or, or_true, true_or, Nat.reduceAdd, ↓reduceIte, List.getElem?_cons_zero, List.getElem?_cons_succ, nthV, List.set_cons_zero, List.set_cons_succ, noL, popA, catS, Value.category, List.length_cons, List.length_nil, Nat.reduceLT, Nat.reduceLeDiff, true_and, and_true, one0, zer1, imp_t, imp_f, ofN_nI, sdead, f20, f21, not_true_eq_false, upC_self, upC_ne, upC_upC, retC, fitC, isRefT, Option.toList_some, Option.toList_none, List.cons_append, List.nil_append, Nat.lt_add_one, Nat.zero_lt_succ, Nat.le_refl, Nat.add_zero, Nat.zero_add, Nat.one_ne_zero, Nat.zero_ne_one, Nat.lt_irrefl, List.length_set, fa_X4_prepare, hi, hd, hQ, mr_X4_prepare, p1, p2]
  refine ⟨by omega, _, t_fillI hG (r := tp + 1) (N := 24) (g := an) (by omega) p2 (by omega) (-1), ?_⟩
  rintro v n1 z1 f1 ⟨rfl, rfl, rfl, a1, rfl, ha1⟩
  refine wp_sound (by rw [hi]; exact ok_X4_prepare) (hd := [8, 16, 24, 38, 61]) 400 _ _ _ _ _ _ ?_
  simp (disch := omega) only [wp, stp, List.mem_cons, List.not_mem_nil, Nat.reduceEqDiff, or_false, or_self, false_or, or_true, true_or, Nat.reduceAdd, ↓reduceIte, List.getElem?_cons_zero, List.getElem?_cons_succ, nthV, List.set_cons_zero, List.set_cons_succ, noL, popA, catS, Value.category, List.length_cons, List.length_nil, Nat.reduceLT, Nat.reduceLeDiff, true_and, and_true, one0, zer1, imp_t, imp_f, ofN_nI, sdead, f20, f21, not_true_eq_false, upC_self, upC_ne, upC_upC, retC, fitC, isRefT, Option.toList_some, Option.toList_none, List.cons_append, List.nil_append, Nat.lt_add_one, Nat.zero_lt_succ, Nat.le_refl, Nat.add_zero, Nat.zero_add, Nat.one_ne_zero, Nat.zero_ne_one, Nat.lt_irrefl, List.length_set, fa_X4_prepare, hi, hd, hQ, mr_X4_prepare, p1, p4]
  refine ⟨by omega, _, t_fillI hG (r := tp + 3) (N := 1332) (g := py) (by omega) (by rw [upC_ne _ _ (by omega)]; exact p4) (by omega) (-1), ?_⟩
  rintro v n2 z2 f2 ⟨rfl, rfl, rfl, a2, rfl, ha2⟩
  refine wp_sound (by rw [hi]; exact ok_X4_prepare) (hd := [8, 16, 24, 38, 61]) 400 _ _ _ _ _ _ ?_
  simp (disch := omega) only [wp, stp, List.mem_cons, List.not_mem_nil, Nat.reduceEqDiff, or_false, or_self, false_or, or_true, true_or, Nat.reduceAdd, ↓reduceIte, List.getElem?_cons_zero, List.getElem?_cons_succ, nthV, List.set_cons_zero, List.set_cons_succ, noL, popA, catS, Value.category, List.length_cons, List.length_nil, Nat.reduceLT, Nat.reduceLeDiff, true_and, and_true, one0, zer1, imp_t, imp_f, ofN_nI, sdead, f20, f21, not_true_eq_false, upC_self, upC_ne, upC_upC, retC, fitC, isRefT, Option.toList_some, Option.toList_none, List.cons_append, List.nil_append, Nat.lt_add_one, Nat.zero_lt_succ, Nat.le_refl, Nat.add_zero, Nat.zero_add, Nat.one_ne_zero, Nat.zero_ne_one, Nat.lt_irrefl, List.length_set, fa_X4_prepare, hi, hd, hQ, mr_X4_prepare, p1, p5]
  refine ⟨by omega, _, t_fillI hG (r := tp + 4) (N := 1369) (g := bs) (by omega) (by rw [upC_ne _ _ (by omega), upC_ne _ _ (by omega)]; exact p5) (by omega) (-1), ?_⟩
  rintro v n3 z3 f3 ⟨rfl, rfl, rfl, a3, rfl, ha3⟩
  have c0 : (0 : Int32).toNatClampNeg = 0 := rfl
  have i0 : vp_in (0 : Int32) 24 := (vin_nI (i := 0) (by omega)).mpr (by omega)
  have step : ∀ (g : Mf) (an pl py bs : Nat → Int32) (cn : Int32) (x : Nat) (c : Cel), CW S L lp N Z K g n3 z3 → LwP g lp L → PL g tp an pl cn py bs → tp ≤ x → x ≤ tp + 4 → CW S L lp N Z K (upC g x c) n3 z3 ∧ LwP (upC g x c) lp L := fun g an pl py bs cn x c h1 h2 h3 h4 h5 => ⟨h1.hi h2 (by omega) (by omega) (h3.row h4 h5) (by omega) (by omega), by unfold LwP at *; rw [upC_ne _ _ (by omega)]; exact h2⟩
  -- the memory as it is filled
  have loop : ∀ k' y g pl' c yd, y + k' = 100 → PI S y pl' c yd → CW S L lp N Z K g n3 z3 → LwP g lp L → PL g tp (upd a1 0 0) pl' (nI c) a2 a3 → FRB [] tp 5 f n3 g → V G X 38 [.ref tp, .int (nI y)] [] n3 z3 g := by
    have fin : ∀ g pl' c yd, PI S 100 pl' c yd → CW S L lp N Z K g n3 z3 → LwP g lp L → PL g tp (upd a1 0 0) pl' (nI c) a2 a3 → FRB [] tp 5 f n3 g → ∃ cnt yd an' pl', cnt = cnt1 (gsN S) 100 ∧ an00 an' ∧ PlY S pl' cnt yd ∧ PlA S cnt yd ∧ PWd S L lp N Z K tp cnt yd an' pl' g n3 z3 ∧ FRB [] tp 5 f n3 g := by
      intro g pl' c yd h hW' hl' hP' hF'
      obtain ⟨⟨h1, h1'⟩, h2, h3, h4⟩ := h
      refine ⟨c, yd, upd a1 0 0, pl', h1', fun j hj => ?_, ⟨h1, fun i hi => ⟨(h2 i hi).1, (h2 i hi).2.1⟩, h3⟩, fun x hx => h4 x hx.1.1 hx, ⟨⟨hW', hl'⟩, a2, a3, hP', fun i col hi hcol => Or.inl (ha2 _ (by omega)), fun a b ha hb => Or.inl (ha3 _ (by have := ixO_le ha h1; have := ixO_le hb h1; omega))⟩, hF'⟩
      rw [upd_ap]
      by_cases q : j = 0
      · rw [if_pos q, if_pos q]
      · rw [if_neg q, if_neg q]; exact ha1 j hj
    intro k'
    induction k' with
    | zero =>
      intro y g pl' c yd hy hI hW' hl' hP' hF'
      have : y = 100 := by omega
      subst this
      refine wp_sound (by rw [hi]; exact ok_X4_prepare) (hd := [8, 16, 24, 38, 61]) 400 _ _ _ _ _ _ ?_
      simp only [wp, stp, List.mem_cons, List.not_mem_nil, Nat.reduceEqDiff, or_false, or_self, false_or, or_true, true_or, Nat.reduceAdd, ↓reduceIte, List.getElem?_cons_zero, List.getElem?_cons_succ, nthV, List.set_cons_zero, List.set_cons_succ, noL, popA, catS, Value.category, List.length_cons, List.length_nil, Nat.reduceLT, Nat.reduceLeDiff, true_and, and_true, one0, zer1, imp_t, imp_f, ofN_nI, sdead, f20, f21, not_true_eq_false, upC_ap, upC_upC, retC, fitC, isRefT, Option.toList_some, Option.toList_none, List.cons_append, List.nil_append, Nat.lt_add_one, Nat.zero_lt_succ, Nat.le_refl, Nat.add_zero, Nat.zero_add, Nat.one_ne_zero, Nat.zero_ne_one, Nat.lt_irrefl, List.length_set, fa_X4_prepare, hi, hd, hQ, mr_X4_prepare]
      try simp only [m1f]
      try simp (disch := omega) only [nmod, nI_leI, nI_ltI, nI_eq, nI_clamp, vin_nI, nI_1, fa_lit, nI_add, nI_rm3, nI_rm2, pk_rem, pk_mul, pk_sub, pk_div, nI_eM, nI_Me, nI_pM, nI_pMz, nI_pM0, M1_lt, M1_le, nI_ltM, nI_leM, i8_nI, true_and, and_true, false_implies, true_implies, not_false_eq_true, not_true_eq_false, ne_eq, implies_true, Nat.not_lt_zero, Nat.zero_le, ite_min, max0, Nat.reduceLT, Nat.reduceLeDiff, Nat.reduceEqDiff, Nat.reduceAdd, Nat.reduceMul]
      try simp only [m1u]
      exact fin g pl' c yd hI hW' hl' hP' hF'
    | succ k' ih =>
      intro y g pl' c yd hy hI hW' hl' hP' hF'
      obtain ⟨r1, r2, r3, r4, r5⟩ := id hP'
      have hc36 := hI.1.1
      have h84 : ∀ g pl' c yd, PI S (y + 1) pl' c yd → CW S L lp N Z K g n3 z3 → LwP g lp L → PL g tp (upd a1 0 0) pl' (nI c) a2 a3 → FRB [] tp 5 f n3 g → V G X 84 [.ref tp, .int (nI y)] [] n3 z3 g := by
        intro g pl' c yd q1 q2 q3 q4 q5
        refine wp_sound (by rw [hi]; exact ok_X4_prepare) (hd := [8, 16, 24, 38, 61]) 400 _ _ _ _ _ _ ?_
        simp only [wp, stp, List.mem_cons, List.not_mem_nil, Nat.reduceEqDiff, or_false, or_self, false_or, or_true, true_or, Nat.reduceAdd, ↓reduceIte, List.getElem?_cons_zero, List.getElem?_cons_succ, nthV, List.set_cons_zero, List.set_cons_succ, noL, popA, catS, Value.category, List.length_cons, List.length_nil, Nat.reduceLT, Nat.reduceLeDiff, true_and, and_true, one0, zer1, imp_t, imp_f, ofN_nI, sdead, f20, f21, not_true_eq_false, upC_ap, upC_upC, retC, fitC, isRefT, Option.toList_some, Option.toList_none, List.cons_append, List.nil_append, Nat.lt_add_one, Nat.zero_lt_succ, Nat.le_refl, Nat.add_zero, Nat.zero_add, Nat.one_ne_zero, Nat.zero_ne_one, Nat.lt_irrefl, List.length_set, fa_X4_prepare, hi, hd, hQ, mr_X4_prepare]
        try simp only [m1f]
        try simp (disch := omega) only [nmod, nI_leI, nI_ltI, nI_eq, nI_clamp, vin_nI, nI_1, fa_lit, nI_add, nI_rm3, nI_rm2, pk_rem, pk_mul, pk_sub, pk_div, nI_eM, nI_Me, nI_pM, nI_pMz, nI_pM0, M1_lt, M1_le, nI_ltM, nI_leM, i8_nI, true_and, and_true, false_implies, true_implies, not_false_eq_true, not_true_eq_false, ne_eq, implies_true, Nat.not_lt_zero, Nat.zero_le, ite_min, max0, Nat.reduceLT, Nat.reduceLeDiff, Nat.reduceEqDiff, Nat.reduceAdd, Nat.reduceMul]
        try simp only [m1u]
        exact ih (y + 1) g pl' c yd (by omega) q1 q2 q3 q4 q5
      have c1 := hW'.1.1
      by_cases hfull : c = 36
      · subst hfull
        refine wp_sound (by rw [hi]; exact ok_X4_prepare) (hd := [8, 16, 24, 38, 61]) 400 _ _ _ _ _ _ ?_
        simp only [wp, stp, List.mem_cons, List.not_mem_nil, Nat.reduceEqDiff, or_false, or_self, false_or, or_true, true_or, Nat.reduceAdd, ↓reduceIte, List.getElem?_cons_zero, List.getElem?_cons_succ, nthV, List.set_cons_zero, List.set_cons_succ, noL, popA, catS, Value.category, List.length_cons, List.length_nil, Nat.reduceLT, Nat.reduceLeDiff, true_and, and_true, one0, zer1, imp_t, imp_f, ofN_nI, sdead, f20, f21, not_true_eq_false, upC_ap, upC_upC, retC, fitC, isRefT, Option.toList_some, Option.toList_none, List.cons_append, List.nil_append, Nat.lt_add_one, Nat.zero_lt_succ, Nat.le_refl, Nat.add_zero, Nat.zero_add, Nat.one_ne_zero, Nat.zero_ne_one, Nat.lt_irrefl, List.length_set, fa_X4_prepare, hi, hd, hQ, mr_X4_prepare, r1]
        try simp only [m1f]
        try simp (disch := omega) only [nmod, nI_leI, nI_ltI, nI_eq, nI_clamp, vin_nI, nI_1, fa_lit, nI_add, nI_rm3, nI_rm2, pk_rem, pk_mul, pk_sub, pk_div, nI_eM, nI_Me, nI_pM, nI_pMz, nI_pM0, M1_lt, M1_le, nI_ltM, nI_leM, i8_nI, true_and, and_true, false_implies, true_implies, not_false_eq_true, not_true_eq_false, ne_eq, implies_true, Nat.not_lt_zero, Nat.zero_le, ite_min, max0, Nat.reduceLT, Nat.reduceLeDiff, Nat.reduceEqDiff, Nat.reduceAdd, Nat.reduceMul]
        try simp only [m1u]
        exact ⟨fun h => absurd h (by omega), fun _ => fin g pl' 36 yd (hI.full h36 (by omega)) hW' hl' hP' hF'⟩
      · refine wp_sound (by rw [hi]; exact ok_X4_prepare) (hd := [8, 16, 24, 38, 61, 84]) 400 _ _ _ _ _ _ ?_
        simp only [wp, stp, List.mem_cons, List.not_mem_nil, Nat.reduceEqDiff, or_false, or_self, false_or, or_true, true_or, Nat.reduceAdd, ↓reduceIte, List.getElem?_cons_zero, List.getElem?_cons_succ, nthV, List.set_cons_zero, List.set_cons_succ, noL, popA, catS, Value.category, List.length_cons, List.length_nil, Nat.reduceLT, Nat.reduceLeDiff, true_and, and_true, one0, zer1, imp_t, imp_f, ofN_nI, sdead, f20, f21, not_true_eq_false, upC_ap, upC_upC, retC, fitC, isRefT, Option.toList_some, Option.toList_none, List.cons_append, List.nil_append, Nat.lt_add_one, Nat.zero_lt_succ, Nat.le_refl, Nat.add_zero, Nat.zero_add, Nat.one_ne_zero, Nat.zero_ne_one, Nat.lt_irrefl, List.length_set, fa_X4_prepare, hi, hd, hQ, mr_X4_prepare, r1, c1]
        try simp only [m1f]
        try simp (disch := omega) only [nmod, nI_leI, nI_ltI, nI_eq, nI_clamp, vin_nI, nI_1, fa_lit, nI_add, nI_rm3, nI_rm2, pk_rem, pk_mul, pk_sub, pk_div, nI_eM, nI_Me, nI_pM, nI_pMz, nI_pM0, M1_lt, M1_le, nI_ltM, nI_leM, i8_nI, true_and, and_true, false_implies, true_implies, not_false_eq_true, not_true_eq_false, ne_eq, implies_true, Nat.not_lt_zero, Nat.zero_le, ite_min, max0, Nat.reduceLT, Nat.reduceLeDiff, Nat.reduceEqDiff, Nat.reduceAdd, Nat.reduceMul]
        try simp only [m1u]
        refine ⟨fun h => absurd h (by omega), fun _ => ⟨fun h => absurd h (by omega), fun _ => ⟨by omega, _, t_isGrass hG (by omega) hW'.1 (nI y), ?_⟩⟩⟩
        rintro v n4 z4 f4 ⟨rfl, rfl, rfl, rfl⟩
        have hgg := gr_gs hB (show y < 100 by omega)
        have hcc : (nI c).toNatClampNeg = c := nI_clamp (by omega)
        refine wp_sound (by rw [hi]; exact ok_X4_prepare) (hd := [8, 16, 24, 38, 61, 84]) 400 _ _ _ _ _ _ ?_
        simp (disch := omega) only [wp, stp, List.mem_cons, List.not_mem_nil, Nat.reduceEqDiff, or_false, or_self, false_or, or_true, true_or, Nat.reduceAdd, ↓reduceIte, List.getElem?_cons_zero, List.getElem?_cons_succ, nthV, List.set_cons_zero, List.set_cons_succ, noL, popA, catS, Value.category, List.length_cons, List.length_nil, Nat.reduceLT, Nat.reduceLeDiff, true_and, and_true, one0, zer1, imp_t, imp_f, ofN_nI, sdead, f20, f21, not_true_eq_false, upC_self, upC_ne, upC_upC, retC, fitC, isRefT, Option.toList_some, Option.toList_none, List.cons_append, List.nil_append, Nat.lt_add_one, Nat.zero_lt_succ, Nat.le_refl, Nat.add_zero, Nat.zero_add, Nat.one_ne_zero, Nat.zero_ne_one, Nat.lt_irrefl, List.length_set, fa_X4_prepare, hi, hd, hQ, mr_X4_prepare, r1, r3, o0, o2, bI_0, hcc]
        refine ⟨fun h => h84 _ pl' c yd ?_ hW' hl' hP' hF', fun h => ⟨(vin_nI (by omega)).mpr (by omega), h84 _ (upd pl' c (nI y)) (c + 1) (fun i => if i < c then yd i else y) ?_ ?_ ?_ ?_ ((hF'.bl h49 (by omega) (by omega)).bl h49 (by omega) (by omega))⟩⟩
        · have h : ¬ gsN S y := fun q => h (hgg.mpr q)
          obtain ⟨⟨h1, h1'⟩, h2, h3, h4⟩ := hI
          refine ⟨⟨h1, by rw [cnt1, if_neg h]; exact h1'⟩, fun i hi => ⟨(h2 i hi).1, (h2 i hi).2.1, by have := (h2 i hi).2.2; omega⟩, h3, fun x hx hg => ?_⟩
          by_cases q : x = y
          · subst q; exact absurd hg h
          · exact h4 x (by omega) hg
        · have h : gsN S y := hgg.mp (Decidable.not_not.mp h)
          obtain ⟨⟨h1, h1'⟩, h2, h3, h4⟩ := hI
          refine ⟨⟨by omega, by rw [cnt1, if_pos h]; omega⟩, fun i hi => ?_, fun i j hi hj hij => ?_, fun x hx hg => ?_⟩
          · dsimp only
            by_cases q : i < c
            · rw [upd_ap, if_neg (by omega), if_pos q]
              exact ⟨(h2 i q).1, (h2 i q).2.1, by have := (h2 i q).2.2; omega⟩
            · have : i = c := by omega
              subst this
              rw [upd_ap, if_pos rfl, if_neg q]
              exact ⟨rfl, h, by omega⟩
          · have hi' : i < c := by omega
            dsimp only
            rw [if_pos hi']
            by_cases q : j < c
            · rw [if_pos q]; exact h3 i j hi' q hij
            · rw [if_neg q]; exact (h2 i hi').2.2
          · by_cases q : x = y
            · subst q; exact ⟨c, by omega, if_neg (Nat.lt_irrefl _)⟩
            · obtain ⟨i, hi, e⟩ := h4 x (by omega) hg
              exact ⟨i, by omega, by dsimp only; rw [if_pos hi]; exact e⟩
        · have s1 := step f4 _ _ _ _ _ (tp + 2) (cI 36 (upd pl' c (nI y))) hW' hl' hP' (by omega) (by omega)
          refine (step _ (upd a1 0 0) (upd pl' c (nI y)) a2 a3 (nI c) tp _ s1.1 s1.2 ⟨?_, ?_, upC_self _ _ _, ?_, ?_⟩ (by omega) (by omega)).1
          · rw [upC_ne _ _ (by omega)]; exact r1
          · rw [upC_ne _ _ (by omega)]; exact r2
          · rw [upC_ne _ _ (by omega)]; exact r4
          · rw [upC_ne _ _ (by omega)]; exact r5
        · unfold LwP at *
          rw [upC_ne _ _ (by omega), upC_ne _ _ (by omega)]; exact hl'
        · refine ⟨?_, ?_, ?_, ?_, ?_⟩
          · rw [upC_self, nI_1]
          · rw [upC_ne _ _ (by omega), upC_ne _ _ (by omega)]; exact r2
          · rw [upC_ne _ _ (by omega), upC_self]
          · rw [upC_ne _ _ (by omega), upC_ne _ _ (by omega)]; exact r4
          · rw [upC_ne _ _ (by omega), upC_ne _ _ (by omega)]; exact r5
  refine wp_sound (by rw [hi]; exact ok_X4_prepare) (hd := [8, 16, 24, 38, 61]) 400 _ _ _ _ _ _ ?_
  simp (disch := omega) only [wp, stp, List.mem_cons, List.not_mem_nil, Nat.reduceEqDiff, or_false, or_self, false_or, or_true, true_or, Nat.reduceAdd, ↓reduceIte, List.getElem?_cons_zero, List.getElem?_cons_succ, nthV, List.set_cons_zero, List.set_cons_succ, noL, popA, catS, Value.category, List.length_cons, List.length_nil, Nat.reduceLT, Nat.reduceLeDiff, true_and, and_true, one0, zer1, imp_t, imp_f, ofN_nI, sdead, f20, f21, not_true_eq_false, upC_self, upC_ne, upC_upC, retC, fitC, isRefT, Option.toList_some, Option.toList_none, List.cons_append, List.nil_append, Nat.lt_add_one, Nat.zero_lt_succ, Nat.le_refl, Nat.add_zero, Nat.zero_add, Nat.one_ne_zero, Nat.zero_ne_one, Nat.lt_irrefl, List.length_set, fa_X4_prepare, hi, hd, hQ, mr_X4_prepare, p1, c0, o0, o1]
  have s1 := step f _ _ _ _ _ (tp + 1) (cI 24 a1) hW hl hPL (by omega) (by omega)
  have P1 : PL (upC f (tp + 1) (cI 24 a1)) tp a1 pl cn py bs := ⟨by rw [upC_ne _ _ (by omega)]; exact p1, upC_self _ _ _, by rw [upC_ne _ _ (by omega)]; exact p3, by rw [upC_ne _ _ (by omega)]; exact p4, by rw [upC_ne _ _ (by omega)]; exact p5⟩
  have s2 := step _ _ _ _ _ _ (tp + 3) (cI 1332 a2) s1.1 s1.2 P1 (by omega) (by omega)
  have P2 : PL (upC (upC f (tp + 1) (cI 24 a1)) (tp + 3) (cI 1332 a2)) tp a1 pl cn a2 bs := ⟨by rw [upC_ne _ _ (by omega)]; exact P1.1, by rw [upC_ne _ _ (by omega)]; exact P1.2.1, by rw [upC_ne _ _ (by omega)]; exact P1.2.2.1, upC_self _ _ _, by rw [upC_ne _ _ (by omega)]; exact P1.2.2.2.2⟩
  have s3 := step _ _ _ _ _ _ (tp + 4) (cI 1369 a3) s2.1 s2.2 P2 (by omega) (by omega)
  have P3 : PL (upC (upC (upC f (tp + 1) (cI 24 a1)) (tp + 3) (cI 1332 a2)) (tp + 4) (cI 1369 a3)) tp a1 pl cn a2 a3 := ⟨by rw [upC_ne _ _ (by omega)]; exact P2.1, by rw [upC_ne _ _ (by omega)]; exact P2.2.1, by rw [upC_ne _ _ (by omega)]; exact P2.2.2.1, by rw [upC_ne _ _ (by omega)]; exact P2.2.2.2.1, upC_self _ _ _⟩
  have s4 := step _ _ _ _ _ _ (tp + 1) (cI 24 (upd a1 0 0)) s3.1 s3.2 P3 (by omega) (by omega)
  have P4 : PL (upC (upC (upC (upC f (tp + 1) (cI 24 a1)) (tp + 3) (cI 1332 a2)) (tp + 4) (cI 1369 a3)) (tp + 1) (cI 24 (upd a1 0 0))) tp (upd a1 0 0) pl cn a2 a3 := ⟨by rw [upC_ne _ _ (by omega)]; exact P3.1, upC_self _ _ _, by rw [upC_ne _ _ (by omega)]; exact P3.2.2.1, by rw [upC_ne _ _ (by omega)]; exact P3.2.2.2.1, by rw [upC_ne _ _ (by omega)]; exact P3.2.2.2.2⟩
  have s5 := step _ _ _ _ _ _ tp (cO 4 [.ref (tp + 1), .ref 1, .ref 20, .ref (tp + 2), .int 0, .ref (tp + 3), .ref (tp + 4)]) s4.1 s4.2 P4 (by omega) (by omega)
  refine ⟨i0, loop 100 0 _ pl 0 (fun _ => 0) rfl ⟨⟨by omega, rfl⟩, fun i hi => absurd hi (Nat.not_lt_zero i), fun i j hi => absurd hi (Nat.not_lt_zero i), fun x hx => absurd hx (Nat.not_lt_zero x)⟩ s5.1 s5.2 ⟨upC_self _ _ _, by rw [upC_ne _ _ (by omega)]; exact P4.2.1, by rw [upC_ne _ _ (by omega)]; exact P4.2.2.1, by rw [upC_ne _ _ (by omega)]; exact P4.2.2.2.1, by rw [upC_ne _ _ (by omega)]; exact P4.2.2.2.2⟩ ?_⟩
  exact (((((FRB.refl _ _ _ _ _).bl h49 (by omega) (by omega)).bl h49 (by omega) (by omega)).bl h49 (by omega) (by omega)).bl h49 (by omega) (by omega)).bl h49 (by omega) (by omega)
end Pl4
