-- the class's ways: rows that are kept until the plain changes
set_option maxRecDepth 100000
set_option maxHeartbeats 4000000
def wdt (S : Sta) : Nat := (S 0 0).toNatClampNeg
def hgt (S : Sta) : Nat := (S 0 1).toNatClampNeg
def opS (S : Sta) (bs : Int32) (c : Nat) : Prop := (c < 100 ∧ c % 10 < wdt S ∧ c / 10 < hgt S) ∧ (S 1 c = 0 ∨ (S 1 c = 2 ∧ ¬ bs = 0))
def aj4 (u v : Nat) : Prop := (v % 10 = u % 10 ∧ (v / 10 + 1 = u / 10 ∨ v / 10 = u / 10 + 1)) ∨ (v / 10 = u / 10 ∧ (v % 10 + 1 = u % 10 ∨ v % 10 = u % 10 + 1))
noncomputable def wayS (S : Sta) (bs : Int32) (a c : Nat) : Int32 := wayF (opS S bs) aj4 a c
def bxF : Nat → Int32 := fun k => match k with | 1 => -1 | 2 => 1 | _ => 0
def byF : Nat → Int32 := fun k => match k with | 0 => -1 | 3 => 1 | _ => 0
def OC (f : Mf) : Prop := f 1000000 = cI 4 bxF ∧ f 1000001 = cI 4 byF
def nulG (g : Nat → Option Nat) : Nat := cnt1 (fun i => g i = none) 100
/-- the ways at place w: rows g, the stamp k -/
def WyR (S : Sta) (bs : Int32) (w : Nat) (f : Mf) (n : Nat) (g : Nat → Option Nat) (k : Nat) : Prop :=
  ∃ sg qq : Nat → Int32, f w = cO 7 [.ref 1, .int bs, .ref (w + 1), .ref (w + 2), .ref (w + 3), .int (nI k)] ∧ f (w + 1) = cQ 100 g ∧ f (w + 2) = cI 100 sg ∧ f (w + 3) = cI 100 qq ∧ k < 100000 ∧
  (∀ i, i < 100 → (∃ j, j ≤ k ∧ sg i = nI j) ∧ (g i = none → ¬ sg i = nI k)) ∧
  (∀ i, i < 100 → ∀ p, g i = some p → 49 ≤ p ∧ p < n ∧ ∃ r, f p = cB 100 r ∧ (sg i = nI k → opS S bs i → ∀ j, j < 100 → r j = wayS S bs i j)) ∧
  (∀ i j p, i < 100 → j < 100 → g i = some p → g j = some p → i = j)
/-- what a search leaves as it was -/
def FRw (w : Nat) (f : Mf) (n : Nat) (g : Nat → Option Nat) (f' : Mf) : Prop :=
  (∀ k, k < 49 → ¬ (k = w + 1 ∨ k = w + 2 ∨ k = w + 3) → f' k = f k) ∧ (∀ k, 49 ≤ k → k < n → (∀ i, i < 100 → g i ≠ some k) → f' k = f k) ∧ ∀ k, 1000000 ≤ k → f' k = f k
theorem cnt1_up {p q : Nat → Prop} [DecidablePred p] [DecidablePred q] {a : Nat} (hp : p a) (hq : ¬ q a) (he : ∀ i, i ≠ a → (q i ↔ p i)) : ∀ N, cnt1 q N + (if a < N then 1 else 0) = cnt1 p N
  | 0 => by simp [cnt1]
  | N + 1 => by
    have ih := cnt1_up hp hq he N
    rw [cnt1, cnt1]
    by_cases e : N = a
    · subst e
      rw [if_neg hq, if_pos hp, if_pos (by omega)]
      rw [if_neg (by omega)] at ih
      omega
    · by_cases h : p N
      · rw [if_pos h, if_pos ((he N e).mpr h)]
        split at ih <;> split <;> omega
      · rw [if_neg h, if_neg (fun z => h ((he N e).mp z))]
        split at ih <;> split <;> omega
theorem nul_up {g : Nat → Option Nat} {a p : Nat} (ha : a < 100) (hg : g a = none) : nulG (va_up g a (some p)) + 1 = nulG g := by
  have := cnt1_up (p := fun i => g i = none) (q := fun i => va_up g a (some p) i = none) (a := a) hg (by simp [va_up]) (fun i hi => by simp [va_up, hi]) 100
  rw [if_pos ha] at this
  exact this
theorem nul_pos {g : Nat → Option Nat} {a : Nat} (ha : a < 100) (hg : g a = none) : 1 ≤ nulG g := by
  have := nul_up (p := 0) ha hg
  omega
def dvs (u s : Nat) : Option Nat := match s with
  | 0 => if 0 < u / 10 then some (u - 10) else none
  | 1 => if 0 < u % 10 then some (u - 1) else none
  | 2 => if u % 10 < 9 then some (u + 1) else none
  | _ => if u / 10 < 9 then some (u + 10) else none
theorem aj4_dvs {u v : Nat} (hu : u < 100) (hv : v < 100) (h : aj4 u v) : ∃ s, s < 4 ∧ dvs u s = some v := by
  rcases h with ⟨h1, h2 | h2⟩ | ⟨h1, h2 | h2⟩
  · exact ⟨0, by omega, by show (if _ then _ else _) = _; rw [if_pos (by omega)]; congr 1; omega⟩
  · exact ⟨3, by omega, by show (if _ then _ else _) = _; rw [if_pos (by omega)]; congr 1; omega⟩
  · exact ⟨1, by omega, by show (if _ then _ else _) = _; rw [if_pos (by omega)]; congr 1; omega⟩
  · exact ⟨2, by omega, by show (if _ then _ else _) = _; rw [if_pos (by omega)]; congr 1; omega⟩
theorem bx_0 : bxF 0 = 0 := rfl
theorem bx_1 : bxF 1 = -1 := rfl
theorem bx_2 : bxF 2 = 1 := rfl
theorem bx_3 : bxF 3 = 0 := rfl
theorem by_0 : byF 0 = -1 := rfl
theorem by_1 : byF 1 = 0 := rfl
theorem by_2 : byF 2 = 0 := rfl
theorem by_3 : byF 3 = 1 := rfl
def Sd (u s : Nat) : Nat → Prop := fun v => ∃ t, t < s ∧ dvs u t = some v
theorem BI.side {op : Nat → Prop} {a : Nat} {r : Nat → Int32} {cq lv : Nat → Nat} {kn i s : Nat} (h : BI op aj4 a r cq lv kn i (Sd (cq i) s)) (hi : i < kn) (hv : ∀ v, dvs (cq i) s = some v → v < 100 → op v → ¬ r v = -1) : BI op aj4 a r cq lv kn i (Sd (cq i) (s + 1)) := by
  cases e : dvs (cq i) s with
  | none =>
    refine h.cong fun v hs => ?_
    obtain ⟨t, h1, h2⟩ := hs
    rcases Nat.lt_or_ge t s with q | q
    · exact ⟨t, q, h2⟩
    · have : t = s := by omega
      subst this; rw [e] at h2; cases h2
  | some w =>
    refine (h.skip hi (v := w) (fun q1 q2 _ => hv w e q1 q2)).cong fun v hs => ?_
    obtain ⟨t, h1, h2⟩ := hs
    rcases Nat.lt_or_ge t s with q | q
    · exact Or.inl ⟨t, q, h2⟩
    · have : t = s := by omega
      subst this; rw [e] at h2; cases h2; exact Or.inr rfl
theorem BI.sideV {op : Nat → Prop} {a : Nat} {r : Nat → Int32} {cq lv : Nat → Nat} {kn i s w : Nat} (h : BI op aj4 a r cq lv kn i (Sd (cq i) s)) (hi : i < kn) (e : dvs (cq i) s = some w) (hw : w < 100) (ho : op w) (ha : aj4 (cq i) w) (hn : r w = -1) :
    BI op aj4 a (upd r w (nI (lv i + 1))) (fun j => if j = kn then w else cq j) (fun j => if j = kn then lv i + 1 else lv j) (kn + 1) i (Sd (cq i) (s + 1)) ∧ kn < 100 := by
  obtain ⟨h1, h2⟩ := h.visit hi hw ho ha hn
  refine ⟨h1.cong fun v hs => ?_, h2⟩
  obtain ⟨t, q1, q2⟩ := hs
  rcases Nat.lt_or_ge t s with q | q
  · exact Or.inl ⟨t, q, q2⟩
  · have : t = s := by omega
    subst this; rw [e] at q2; cases q2; exact Or.inr rfl
section From
variable {G : Gam} {d lp : Nat} {S : Sta}
/-- the two sides' search, from the place where the row is known -/
theorem from23_12 {X : Fx} (hi : X.i = 87) (hd : X.d = d) (hd1 : 1 ≤ d) (hG : Ok G) (hB : Bd S) {a p n z k : Nat} {f : Mf} {g : Nat → Option Nat} (hC : CR S lp f) (hO : OC f) (hW : WyR S 1 12 f n g k) (ha : a < 100) (hop : opS S 1 a) (hg : g a = some p) (hnO : n < 1000000) {Q : Po} (hQ : X.Q = Q)
    (hpost : ∀ f' r, (∀ j, j < 100 → r j = wayS S 1 a j) → f' p = cB 100 r → WyR S 1 12 f' n g k → FRw 12 f n g f' → Q (some (.ref p)) n z f') (u3 u4 u5 u6 u7 u8 u9 u10 u11 : Value) :
    V G X 23 [.ref 12, .int (nI a), .ref p, u3, u4, u5, u6, u7, u8, u9, u10, u11] [] n z f := by
  obtain ⟨sg, qq, w1, w2, w3, w4, w5, w6, w7, w8⟩ := id hW
  obtain ⟨c1, kd, ya, fa, mo, co, mv, tp, my, c2, c2', -⟩ := id hC
  obtain ⟨o1, o2⟩ := hO
  obtain ⟨p1, p2, r0, p3, p4⟩ := w7 a ha p hg
  obtain ⟨-, -, wd, ht, e0, e1, hw1, hw2, hh1, hh2⟩ := hB
  have ewd : wdt S = wd := by rw [wdt, e0, nI_clamp (by omega)]
  have eht : hgt S = ht := by rw [hgt, e1, nI_clamp (by omega)]
  have pne : ∀ q, q < 49 → ¬ q = p := fun q hq => by omega
  have pO : p < 1000000 := by omega
  have q1 : (p = 14) = False := eq_false (by omega)
  have q2 : (p = 15) = False := eq_false (by omega)
  have q3 : (14 = p) = False := eq_false (by omega)
  have q4 : (15 = p) = False := eq_false (by omega)
  have q5 : (12 = p) = False := eq_false (by omega)
  have q6 : (1 = p) = False := eq_false (by omega)
  have q7 : (2 = p) = False := eq_false (by omega)
  have q8 : (1000000 = p) = False := eq_false (by omega)
  have q9 : (1000001 = p) = False := eq_false (by omega)
  obtain ⟨Mm, hMm⟩ : ∃ Mm : (Nat → Int32) → (Nat → Int32) → Mf, Mm = fun r q => upC (upC (upC f 14 (cI 100 (upd sg a (nI k)))) p (cB 100 r)) 15 (cI 100 q) := ⟨_, rfl⟩
  have m0 : ∀ r q, Mm r q 12 = cO 7 [.ref 1, .int 1, .ref 13, .ref 14, .ref 15, .int (nI k)] := fun r q => by rw [hMm]; simp only [upC_ap, q5]; exact w1
  have m3 : ∀ r q, Mm r q 15 = cI 100 q := fun r q => by rw [hMm]; exact upC_self _ _ _
  have mp : ∀ r q, Mm r q p = cB 100 r := fun r q => by rw [hMm]; simp only [upC_ap, q2, if_false, if_true]
  have mc : ∀ r q, Mm r q 1 = f 1 := fun r q => by rw [hMm]; simp only [upC_ap, q6]; rfl
  have mk : ∀ r q, Mm r q 2 = cI 100 kd := fun r q => by rw [hMm]; simp only [upC_ap, q7]; exact c2
  have mx : ∀ r q, Mm r q 1000000 = cI 4 bxF := fun r q => by rw [hMm]; simp only [upC_ap, q8]; exact o1
  have my' : ∀ r q, Mm r q 1000001 = cI 4 byF := fun r q => by rw [hMm]; simp only [upC_ap, q9]; exact o2
  have uP : ∀ r q r', upC (Mm r q) p (cB 100 r') = Mm r' q := fun r q r' => by rw [hMm]; show upC (upC (upC _ p _) _ _) p _ = upC (upC _ p _) _ _; rw [upC_comm _ (by omega : 15 ≠ p), upC_upC]
  have uQ : ∀ r q q', upC (Mm r q) 15 (cI 100 q') = Mm r q' := fun r q q' => by rw [hMm]; exact upC_upC _ _ _ _
  have fin : ∀ r q, (∀ j, j < 100 → r j = wayS S 1 a j) → Q (some (.ref p)) n z (Mm r q) := by
    intro r q hr
    have old : ∀ x, ¬ x = 14 → ¬ x = 15 → ¬ x = p → Mm r q x = f x := fun x h1 h2 h3 => by rw [hMm]; simp only [upC_ap, if_neg h1, if_neg h2, if_neg h3]
    refine hpost (Mm r q) r hr (mp r q) ⟨upd sg a (nI k), q, m0 r q, by rw [old _ (by omega) (by omega) (by omega)]; exact w2, by rw [hMm]; simp only [upC_ap, q3]; rfl, m3 r q, w5, fun i hi => ?_, fun i hi p' hp' => ?_, w8⟩ ⟨fun x hx hn => ?_, fun x h1 h2 h3 => ?_, fun x hx => ?_⟩
    · by_cases e : i = a
      · subst e
        rw [upd, if_pos rfl]
        exact ⟨⟨k, Nat.le_refl _, rfl⟩, fun h => by rw [hg] at h; cases h⟩
      · rw [upd, if_neg e]; exact w6 i hi
    · obtain ⟨a1, a2, rr, a3, a4⟩ := w7 i hi p' hp'
      by_cases e : i = a
      · subst e
        rw [hg] at hp'; cases hp'
        exact ⟨a1, a2, r, mp r q, fun _ _ => hr⟩
      · have hne : ¬ p' = p := fun h => e (w8 i a p hi ha (h ▸ hp') hg)
        exact ⟨a1, a2, rr, by rw [old _ (by omega) (by omega) hne]; exact a3, by rw [upd, if_neg e]; exact a4⟩
    · exact old x (fun h => hn (by omega)) (fun h => hn (by omega)) (by omega)
    · exact old x (by omega) (by omega) (fun h => h3 a ha (h ▸ hg))
    · exact old x (by omega) (by omega) (by omega)
  have outer : ∀ t i r q cq lv kn u5 u6 u7 u8 u9 u10 u11, i + t = 100 → BI (opS S 1) aj4 a r cq lv kn i (fun _ => False) → (∀ j, j < kn → q j = nI (cq j)) → (∀ j, j < kn → opS S 1 (cq j)) → V G X 69 [.ref 12, .int (nI a), .ref p, .int (nI kn), .int (nI i), u5, u6, u7, u8, u9, u10, u11] [] n z (Mm r q) := by
    intro t
    induction t with
    | zero =>
      intro i r q cq lv kn u5 u6 u7 u8 u9 u10 u11 ht hBI hq ho
      have hle := hBI.le
      have hik := hBI.2.2.2.2.2.2.2.2
      have e : i = kn := by omega
      subst e
      refine wp_sound (by rw [hi]; exact ok_X7_from) (hd := [53, 69, 94]) 400 _ _ _ _ _ _ ?_
      simp only [wp, stp, List.mem_cons, List.not_mem_nil, Nat.reduceEqDiff, or_false, or_self, false_or, or_true, true_or, Nat.reduceAdd, ↓reduceIte, List.getElem?_cons_zero, List.getElem?_cons_succ, nthV, List.set_cons_zero, List.set_cons_succ, noL, popA, catS, Value.category, List.length_cons, List.length_nil, Nat.reduceLT, Nat.reduceLeDiff, true_and, and_true, one0, zer1, imp_t, imp_f, ofN_nI, sdead, f20, f21, not_true_eq_false, upC_ap, retC, fitC, isRefT, Option.toList_some, Option.toList_none, List.cons_append, List.nil_append, Nat.lt_add_one, Nat.zero_lt_succ, Nat.le_refl, Nat.add_zero, Nat.zero_add, Nat.one_ne_zero, Nat.zero_ne_one, Nat.lt_irrefl, List.length_set, fa_X7_from, hi, hd, hQ, mr_X7_from, m0, m3, mp]
      try simp only [m1f]
      try simp (disch := omega) only [nI_leI, nI_ltI, nI_eq, nI_clamp, vin_nI, nI_1, fa_lit, nI_add, nI_rm3, nI_rm2, pk_rem, pk_mul, pk_sub, pk_div, nI_eM, nI_Me, nI_pM, nI_pMz, nI_pM0, M1_lt, M1_le, nI_ltM, nI_leM, i8_nI, true_and, and_true, false_implies, true_implies, not_false_eq_true, not_true_eq_false, ne_eq, implies_true, Nat.not_lt_zero, Nat.zero_le]
      try simp only [m1u]
      exact ⟨fun _ => fin r q (fun j hj => hBI.done hj), fun h => absurd (Nat.le_refl _) h⟩
    | succ t ih =>
      intro i r q cq lv kn u5 u6 u7 u8 u9 u10 u11 ht hBI hq ho
      have hle := hBI.le
      have hik := hBI.2.2.2.2.2.2.2.2
      have inner : ∀ t2 s r q cq lv kn u7 u8 u9 u10 u11, s + t2 = 4 → BI (opS S 1) aj4 a r cq lv kn i (Sd (cq i) s) → i < kn → (∀ j, j < kn → q j = nI (cq j)) → (∀ j, j < kn → opS S 1 (cq j)) → V G X 94 [.ref 12, .int (nI a), .ref p, .int (nI kn), .int (nI i), .int (nI (cq i)), .int (nI s), u7, u8, u9, u10, u11] [] n z (Mm r q) := by
        intro t2
        induction t2 with
        | zero =>
          intro s r q cq lv kn u7 u8 u9 u10 u11 hs hBI hik hq ho
          have e : s = 4 := by omega
          subst e
          have hle := hBI.le
          have hnx := fun u5 u6 u7 u8 u9 u10 u11 => ih (i + 1) r q cq lv kn u5 u6 u7 u8 u9 u10 u11 (by omega) (hBI.next hik (fun v hv _ haj => aj4_dvs (ho i hik).1.1 hv haj)) hq ho
          refine wp_sound (by rw [hi]; exact ok_X7_from) (hd := [53, 69, 94]) 400 _ _ _ _ _ _ ?_
          simp only [wp, stp, List.mem_cons, List.not_mem_nil, Nat.reduceEqDiff, or_false, or_self, false_or, or_true, true_or, Nat.reduceAdd, ↓reduceIte, List.getElem?_cons_zero, List.getElem?_cons_succ, nthV, List.set_cons_zero, List.set_cons_succ, noL, popA, catS, Value.category, List.length_cons, List.length_nil, Nat.reduceLT, Nat.reduceLeDiff, true_and, and_true, one0, zer1, imp_t, imp_f, ofN_nI, sdead, f20, f21, not_true_eq_false, upC_ap, retC, fitC, isRefT, Option.toList_some, Option.toList_none, List.cons_append, List.nil_append, Nat.lt_add_one, Nat.zero_lt_succ, Nat.le_refl, Nat.add_zero, Nat.zero_add, Nat.one_ne_zero, Nat.zero_ne_one, Nat.lt_irrefl, List.length_set, fa_X7_from, hi, hd, hQ, mr_X7_from, m0, m3, mp, mx, sv]
          try simp only [m1f]
          try simp (disch := omega) only [nI_leI, nI_ltI, nI_eq, nI_clamp, vin_nI, nI_1, fa_lit, nI_add, nI_rm3, nI_rm2, pk_rem, pk_mul, pk_sub, pk_div, nI_eM, nI_Me, nI_pM, nI_pMz, nI_pM0, M1_lt, M1_le, nI_ltM, nI_leM, i8_nI, true_and, and_true, false_implies, true_implies, not_false_eq_true, not_true_eq_false, ne_eq, implies_true, Nat.not_lt_zero, Nat.zero_le]
          try simp only [m1u]
          constructor
          · intro _
            exact hnx _ _ _ _ _ _ _
          · intro h
            exact absurd (by first | exact Nat.le_refl _ | trivial) h
        | succ t2 ih2 =>
          intro s r q cq lv kn u7 u8 u9 u10 u11 hs hBI hik hq ho
          have hle := hBI.le
          obtain ⟨⟨hu1, hu2, hu3⟩, -⟩ := ho i hik
          obtain ⟨-, hl1, hl2, -⟩ := hBI.1 i hik
          have h256 : ∀ r q cq2 lv kn u7 u8 u9 u10 u11, cq2 i = cq i → BI (opS S 1) aj4 a r cq2 lv kn i (Sd (cq2 i) (s + 1)) → i < kn → (∀ j, j < kn → q j = nI (cq2 j)) → (∀ j, j < kn → opS S 1 (cq2 j)) → V G X 256 [.ref 12, .int (nI a), .ref p, .int (nI kn), .int (nI i), .int (nI (cq i)), .int (nI s), u7, u8, u9, u10, u11] [] n z (Mm r q) := by
            intro r q cq2 lv kn u7 u8 u9 u10 u11 e hB hik hq ho
            have := ih2 (s + 1) r q cq2 lv kn u7 u8 u9 u10 u11 (by omega) hB hik hq ho
            rw [e] at this
            refine wp_sound (by rw [hi]; exact ok_X7_from) (hd := [53, 69, 94]) 400 _ _ _ _ _ _ ?_
            simp only [wp, stp, List.mem_cons, List.not_mem_nil, Nat.reduceEqDiff, or_false, or_self, false_or, or_true, true_or, Nat.reduceAdd, ↓reduceIte, List.getElem?_cons_zero, List.getElem?_cons_succ, nthV, List.set_cons_zero, List.set_cons_succ, noL, popA, catS, Value.category, List.length_cons, List.length_nil, Nat.reduceLT, Nat.reduceLeDiff, true_and, and_true, one0, zer1, imp_t, imp_f, ofN_nI, sdead, f20, f21, not_true_eq_false, upC_ap, retC, fitC, isRefT, Option.toList_some, Option.toList_none, List.cons_append, List.nil_append, Nat.lt_add_one, Nat.zero_lt_succ, Nat.le_refl, Nat.add_zero, Nat.zero_add, Nat.one_ne_zero, Nat.zero_ne_one, Nat.lt_irrefl, List.length_set, fa_X7_from, hi, hd, hQ, mr_X7_from, m0]
            try simp only [m1f]
            try simp (disch := omega) only [nI_leI, nI_ltI, nI_eq, nI_clamp, vin_nI, nI_1, fa_lit, nI_add, nI_rm3, nI_rm2, pk_rem, pk_mul, pk_sub, pk_div, nI_eM, nI_Me, nI_pM, nI_pMz, nI_pM0, M1_lt, M1_le, nI_ltM, nI_leM, i8_nI, true_and, and_true, false_implies, true_implies, not_false_eq_true, not_true_eq_false, ne_eq, implies_true, Nat.not_lt_zero, Nat.zero_le]
            try simp only [m1u]
            exact this
          have hsk : ∀ u7 u8 u9 u10 u11, (∀ v, dvs (cq i) s = some v → v < 100 → opS S 1 v → ¬ r v = -1) → V G X 256 [.ref 12, .int (nI a), .ref p, .int (nI kn), .int (nI i), .int (nI (cq i)), .int (nI s), u7, u8, u9, u10, u11] [] n z (Mm r q) := fun u7 u8 u9 u10 u11 hv => h256 r q cq lv kn u7 u8 u9 u10 u11 rfl (hBI.side hik hv) hik hq ho
          have hvi : ∀ v u7 u8 u9 u10 u11, dvs (cq i) s = some v → v < 100 → opS S 1 v → aj4 (cq i) v → r v = -1 → V G X 256 [.ref 12, .int (nI a), .ref p, .int (nI (kn + 1)), .int (nI i), .int (nI (cq i)), .int (nI s), u7, u8, u9, u10, u11] [] n z (Mm (upd r v (nI (lv i + 1))) (upd q kn (nI v))) := by
            intro v u7 u8 u9 u10 u11 hv1 hv2 hv3 hv4 hv5
            obtain ⟨hB, hlt⟩ := hBI.sideV hik hv1 hv2 hv3 hv4 hv5
            have ei : (if i = kn then v else cq i) = cq i := if_neg (by omega)
            refine h256 _ _ (fun j => if j = kn then v else cq j) (fun j => if j = kn then lv i + 1 else lv j) (kn + 1) u7 u8 u9 u10 u11 ei ?_ (by omega) (fun j hj => ?_) (fun j hj => ?_)
            · show BI _ _ _ _ _ _ _ _ (Sd (if i = kn then v else cq i) (s + 1))
              rw [ei]; exact hB
            · by_cases e : j = kn
              · subst e; simp [upd]
              · rw [upd, if_neg e]; simp only [if_neg e]; exact hq j (by omega)
            · by_cases e : j = kn
              · subst e; simp only [if_true]; exact hv3
              · simp only [if_neg e]; exact ho j (by omega)
          have hrow2 : r (nI (cq i)).toNatClampNeg = nI (lv i) := by rw [nI_clamp (by omega)]; exact hl1
          rcases (by omega : s = 0 ∨ s = 1 ∨ s = 2 ∨ s = 3) with rfl | rfl | rfl | rfl
          · by_cases hy : 0 < cq i / 10
            · obtain ⟨v, hv⟩ : ∃ v, v = cq i - 10 := ⟨_, rfl⟩
              have hv1 : v < 100 := by omega
              have hdv : dvs (cq i) 0 = some v := by show (if _ then _ else _) = _; rw [if_pos hy, hv]
              have haj : aj4 (cq i) v := by unfold aj4; omega
              have ev : 10 * (cq i / 10 - 1) + (cq i - cq i / 10 * 10 + 0) = v := by omega
              refine wp_sound (by rw [hi]; exact ok_X7_from) (hd := [53, 69, 94, 256]) 400 _ _ _ _ _ _ ?_
              simp only [wp, stp, List.mem_cons, List.not_mem_nil, Nat.reduceEqDiff, or_false, or_self, false_or, or_true, true_or, Nat.reduceAdd, ↓reduceIte, List.getElem?_cons_zero, List.getElem?_cons_succ, nthV, List.set_cons_zero, List.set_cons_succ, noL, popA, catS, Value.category, List.length_cons, List.length_nil, Nat.reduceLT, Nat.reduceLeDiff, true_and, and_true, one0, zer1, imp_t, imp_f, ofN_nI, sdead, f20, f21, not_true_eq_false, upC_ap, retC, fitC, isRefT, Option.toList_some, Option.toList_none, List.cons_append, List.nil_append, Nat.lt_add_one, Nat.zero_lt_succ, Nat.le_refl, Nat.add_zero, Nat.zero_add, Nat.one_ne_zero, Nat.zero_ne_one, Nat.lt_irrefl, List.length_set, fa_X7_from, hi, hd, hQ, mr_X7_from, m0, m3, mp, mx, my', mc, c1, mk, e0, e1, uP, uQ, sv, cl0, bx_0, by_0, hrow2, pO, q1, q2, q3, q4, q5, q6, q7]
              try simp only [m1f]
              try simp (disch := omega) only [nI_leI, nI_ltI, nI_eq, nI_clamp, vin_nI, nI_1, fa_lit, nI_add, nI_rm3, nI_rm2, pk_rem, pk_mul, pk_sub, pk_div, nI_eM, nI_Me, nI_pM, nI_pMz, nI_pM0, M1_lt, M1_le, nI_ltM, nI_leM, i8_nI, true_and, and_true, false_implies, true_implies, not_false_eq_true, not_true_eq_false, ne_eq, implies_true, Nat.not_lt_zero, Nat.zero_le]
              try simp only [m1u]
              simp only [ev, c2' v hv1]
              repeat' (with_reducible first | apply And.intro | intro)
              all_goals first
                | omega
                | contradiction
                | (refine hsk _ _ _ _ _ (fun v' g1 g2 g3 => ?_)
                   rw [hdv] at g1; cases g1
                   first
                     | assumption
                     | exact fun e => absurd (hBI.sideV hik hdv g2 g3 haj e).2 (by omega)
                     | (obtain ⟨⟨g4, g5, g6⟩, g7⟩ := g3
                        first
                          | (exfalso; omega)
                          | (exfalso; rcases g7 with g7 | g7 <;> first | contradiction | exact absurd g7.1 (by assumption) | exact absurd rfl g7.2 | simp_all)))
                | (refine hvi v _ _ _ _ _ hdv hv1 ⟨⟨hv1, by omega, by omega⟩, ?_⟩ haj (by assumption)
                   first | exact Or.inl (by assumption) | exact Or.inr ⟨by assumption, by decide⟩)
            · refine wp_sound (by rw [hi]; exact ok_X7_from) (hd := [53, 69, 94, 256]) 400 _ _ _ _ _ _ ?_
              simp only [wp, stp, List.mem_cons, List.not_mem_nil, Nat.reduceEqDiff, or_false, or_self, false_or, or_true, true_or, Nat.reduceAdd, ↓reduceIte, List.getElem?_cons_zero, List.getElem?_cons_succ, nthV, List.set_cons_zero, List.set_cons_succ, noL, popA, catS, Value.category, List.length_cons, List.length_nil, Nat.reduceLT, Nat.reduceLeDiff, true_and, and_true, one0, zer1, imp_t, imp_f, ofN_nI, sdead, f20, f21, not_true_eq_false, upC_ap, retC, fitC, isRefT, Option.toList_some, Option.toList_none, List.cons_append, List.nil_append, Nat.lt_add_one, Nat.zero_lt_succ, Nat.le_refl, Nat.add_zero, Nat.zero_add, Nat.one_ne_zero, Nat.zero_ne_one, Nat.lt_irrefl, List.length_set, fa_X7_from, hi, hd, hQ, mr_X7_from, m0, m3, mp, mx, my', mc, c1, mk, e0, e1, uP, uQ, sv, cl0, bx_0, by_0, hrow2, pO, q1, q2, q3, q4, q5, q6, q7]
              try simp only [m1f]
              try simp (disch := omega) only [nI_leI, nI_ltI, nI_eq, nI_clamp, vin_nI, nI_1, fa_lit, nI_add, nI_rm3, nI_rm2, pk_rem, pk_mul, pk_sub, pk_div, nI_eM, nI_Me, nI_pM, nI_pMz, nI_pM0, M1_lt, M1_le, nI_ltM, nI_leM, i8_nI, true_and, and_true, false_implies, true_implies, not_false_eq_true, not_true_eq_false, ne_eq, implies_true, Nat.not_lt_zero, Nat.zero_le]
              try simp only [m1u]
              have hdn : ∀ v', dvs (cq i) 0 = some v' → False := fun v' h => by
                have h : (if _ then some _ else none) = some v' := h
                rw [if_neg hy] at h; cases h
              repeat' (with_reducible first | apply And.intro | intro)
              all_goals first
                | omega
                | contradiction
                | exact hsk _ _ _ _ _ (fun v' g1 _ _ => (hdn v' g1).elim)
                | (exfalso; omega)
          · by_cases hy : 0 < cq i % 10
            · obtain ⟨v, hv⟩ : ∃ v, v = cq i - 1 := ⟨_, rfl⟩
              have hv1 : v < 100 := by omega
              have hdv : dvs (cq i) 1 = some v := by show (if _ then _ else _) = _; rw [if_pos hy, hv]
              have haj : aj4 (cq i) v := by unfold aj4; omega
              have ev : 10 * (cq i / 10 + 0) + (cq i - cq i / 10 * 10 - 1) = v := by omega
              refine wp_sound (by rw [hi]; exact ok_X7_from) (hd := [53, 69, 94, 256]) 400 _ _ _ _ _ _ ?_
              simp only [wp, stp, List.mem_cons, List.not_mem_nil, Nat.reduceEqDiff, or_false, or_self, false_or, or_true, true_or, Nat.reduceAdd, ↓reduceIte, List.getElem?_cons_zero, List.getElem?_cons_succ, nthV, List.set_cons_zero, List.set_cons_succ, noL, popA, catS, Value.category, List.length_cons, List.length_nil, Nat.reduceLT, Nat.reduceLeDiff, true_and, and_true, one0, zer1, imp_t, imp_f, ofN_nI, sdead, f20, f21, not_true_eq_false, upC_ap, retC, fitC, isRefT, Option.toList_some, Option.toList_none, List.cons_append, List.nil_append, Nat.lt_add_one, Nat.zero_lt_succ, Nat.le_refl, Nat.add_zero, Nat.zero_add, Nat.one_ne_zero, Nat.zero_ne_one, Nat.lt_irrefl, List.length_set, fa_X7_from, hi, hd, hQ, mr_X7_from, m0, m3, mp, mx, my', mc, c1, mk, e0, e1, uP, uQ, sv, cl1, bx_1, by_1, hrow2, pO, q1, q2, q3, q4, q5, q6, q7]
              try simp only [m1f]
              try simp (disch := omega) only [nI_leI, nI_ltI, nI_eq, nI_clamp, vin_nI, nI_1, fa_lit, nI_add, nI_rm3, nI_rm2, pk_rem, pk_mul, pk_sub, pk_div, nI_eM, nI_Me, nI_pM, nI_pMz, nI_pM0, M1_lt, M1_le, nI_ltM, nI_leM, i8_nI, true_and, and_true, false_implies, true_implies, not_false_eq_true, not_true_eq_false, ne_eq, implies_true, Nat.not_lt_zero, Nat.zero_le]
              try simp only [m1u]
              simp only [ev, c2' v hv1]
              repeat' (with_reducible first | apply And.intro | intro)
              all_goals first
                | omega
                | contradiction
                | (refine hsk _ _ _ _ _ (fun v' g1 g2 g3 => ?_)
                   rw [hdv] at g1; cases g1
                   first
                     | assumption
                     | exact fun e => absurd (hBI.sideV hik hdv g2 g3 haj e).2 (by omega)
                     | (obtain ⟨⟨g4, g5, g6⟩, g7⟩ := g3
                        first
                          | (exfalso; omega)
                          | (exfalso; rcases g7 with g7 | g7 <;> first | contradiction | exact absurd g7.1 (by assumption) | exact absurd rfl g7.2 | simp_all)))
                | (refine hvi v _ _ _ _ _ hdv hv1 ⟨⟨hv1, by omega, by omega⟩, ?_⟩ haj (by assumption)
                   first | exact Or.inl (by assumption) | exact Or.inr ⟨by assumption, by decide⟩)
            · refine wp_sound (by rw [hi]; exact ok_X7_from) (hd := [53, 69, 94, 256]) 400 _ _ _ _ _ _ ?_
              simp only [wp, stp, List.mem_cons, List.not_mem_nil, Nat.reduceEqDiff, or_false, or_self, false_or, or_true, true_or, Nat.reduceAdd, ↓reduceIte, List.getElem?_cons_zero, List.getElem?_cons_succ, nthV, List.set_cons_zero, List.set_cons_succ, noL, popA, catS, Value.category, List.length_cons, List.length_nil, Nat.reduceLT, Nat.reduceLeDiff, true_and, and_true, one0, zer1, imp_t, imp_f, ofN_nI, sdead, f20, f21, not_true_eq_false, upC_ap, retC, fitC, isRefT, Option.toList_some, Option.toList_none, List.cons_append, List.nil_append, Nat.lt_add_one, Nat.zero_lt_succ, Nat.le_refl, Nat.add_zero, Nat.zero_add, Nat.one_ne_zero, Nat.zero_ne_one, Nat.lt_irrefl, List.length_set, fa_X7_from, hi, hd, hQ, mr_X7_from, m0, m3, mp, mx, my', mc, c1, mk, e0, e1, uP, uQ, sv, cl1, bx_1, by_1, hrow2, pO, q1, q2, q3, q4, q5, q6, q7]
              try simp only [m1f]
              try simp (disch := omega) only [nI_leI, nI_ltI, nI_eq, nI_clamp, vin_nI, nI_1, fa_lit, nI_add, nI_rm3, nI_rm2, pk_rem, pk_mul, pk_sub, pk_div, nI_eM, nI_Me, nI_pM, nI_pMz, nI_pM0, M1_lt, M1_le, nI_ltM, nI_leM, i8_nI, true_and, and_true, false_implies, true_implies, not_false_eq_true, not_true_eq_false, ne_eq, implies_true, Nat.not_lt_zero, Nat.zero_le]
              try simp only [m1u]
              have hdn : ∀ v', dvs (cq i) 1 = some v' → False := fun v' h => by
                have h : (if _ then some _ else none) = some v' := h
                rw [if_neg hy] at h; cases h
              repeat' (with_reducible first | apply And.intro | intro)
              all_goals first
                | omega
                | contradiction
                | exact hsk _ _ _ _ _ (fun v' g1 _ _ => (hdn v' g1).elim)
                | (exfalso; omega)
          · by_cases hy : cq i % 10 < 9
            · obtain ⟨v, hv⟩ : ∃ v, v = cq i + 1 := ⟨_, rfl⟩
              have hv1 : v < 100 := by omega
              have hdv : dvs (cq i) 2 = some v := by show (if _ then _ else _) = _; rw [if_pos hy, hv]
              have haj : aj4 (cq i) v := by unfold aj4; omega
              have ev : 10 * (cq i / 10 + 0) + (cq i - cq i / 10 * 10 + 1) = v := by omega
              refine wp_sound (by rw [hi]; exact ok_X7_from) (hd := [53, 69, 94, 256]) 400 _ _ _ _ _ _ ?_
              simp only [wp, stp, List.mem_cons, List.not_mem_nil, Nat.reduceEqDiff, or_false, or_self, false_or, or_true, true_or, Nat.reduceAdd, ↓reduceIte, List.getElem?_cons_zero, List.getElem?_cons_succ, nthV, List.set_cons_zero, List.set_cons_succ, noL, popA, catS, Value.category, List.length_cons, List.length_nil, Nat.reduceLT, Nat.reduceLeDiff, true_and, and_true, one0, zer1, imp_t, imp_f, ofN_nI, sdead, f20, f21, not_true_eq_false, upC_ap, retC, fitC, isRefT, Option.toList_some, Option.toList_none, List.cons_append, List.nil_append, Nat.lt_add_one, Nat.zero_lt_succ, Nat.le_refl, Nat.add_zero, Nat.zero_add, Nat.one_ne_zero, Nat.zero_ne_one, Nat.lt_irrefl, List.length_set, fa_X7_from, hi, hd, hQ, mr_X7_from, m0, m3, mp, mx, my', mc, c1, mk, e0, e1, uP, uQ, sv, cl2, bx_2, by_2, hrow2, pO, q1, q2, q3, q4, q5, q6, q7]
              try simp only [m1f]
              try simp (disch := omega) only [nI_leI, nI_ltI, nI_eq, nI_clamp, vin_nI, nI_1, fa_lit, nI_add, nI_rm3, nI_rm2, pk_rem, pk_mul, pk_sub, pk_div, nI_eM, nI_Me, nI_pM, nI_pMz, nI_pM0, M1_lt, M1_le, nI_ltM, nI_leM, i8_nI, true_and, and_true, false_implies, true_implies, not_false_eq_true, not_true_eq_false, ne_eq, implies_true, Nat.not_lt_zero, Nat.zero_le]
              try simp only [m1u]
              simp only [ev, c2' v hv1]
              repeat' (with_reducible first | apply And.intro | intro)
              all_goals first
                | omega
                | contradiction
                | (refine hsk _ _ _ _ _ (fun v' g1 g2 g3 => ?_)
                   rw [hdv] at g1; cases g1
                   first
                     | assumption
                     | exact fun e => absurd (hBI.sideV hik hdv g2 g3 haj e).2 (by omega)
                     | (obtain ⟨⟨g4, g5, g6⟩, g7⟩ := g3
                        first
                          | (exfalso; omega)
                          | (exfalso; rcases g7 with g7 | g7 <;> first | contradiction | exact absurd g7.1 (by assumption) | exact absurd rfl g7.2 | simp_all)))
                | (refine hvi v _ _ _ _ _ hdv hv1 ⟨⟨hv1, by omega, by omega⟩, ?_⟩ haj (by assumption)
                   first | exact Or.inl (by assumption) | exact Or.inr ⟨by assumption, by decide⟩)
            · refine wp_sound (by rw [hi]; exact ok_X7_from) (hd := [53, 69, 94, 256]) 400 _ _ _ _ _ _ ?_
              simp only [wp, stp, List.mem_cons, List.not_mem_nil, Nat.reduceEqDiff, or_false, or_self, false_or, or_true, true_or, Nat.reduceAdd, ↓reduceIte, List.getElem?_cons_zero, List.getElem?_cons_succ, nthV, List.set_cons_zero, List.set_cons_succ, noL, popA, catS, Value.category, List.length_cons, List.length_nil, Nat.reduceLT, Nat.reduceLeDiff, true_and, and_true, one0, zer1, imp_t, imp_f, ofN_nI, sdead, f20, f21, not_true_eq_false, upC_ap, retC, fitC, isRefT, Option.toList_some, Option.toList_none, List.cons_append, List.nil_append, Nat.lt_add_one, Nat.zero_lt_succ, Nat.le_refl, Nat.add_zero, Nat.zero_add, Nat.one_ne_zero, Nat.zero_ne_one, Nat.lt_irrefl, List.length_set, fa_X7_from, hi, hd, hQ, mr_X7_from, m0, m3, mp, mx, my', mc, c1, mk, e0, e1, uP, uQ, sv, cl2, bx_2, by_2, hrow2, pO, q1, q2, q3, q4, q5, q6, q7]
              try simp only [m1f]
              try simp (disch := omega) only [nI_leI, nI_ltI, nI_eq, nI_clamp, vin_nI, nI_1, fa_lit, nI_add, nI_rm3, nI_rm2, pk_rem, pk_mul, pk_sub, pk_div, nI_eM, nI_Me, nI_pM, nI_pMz, nI_pM0, M1_lt, M1_le, nI_ltM, nI_leM, i8_nI, true_and, and_true, false_implies, true_implies, not_false_eq_true, not_true_eq_false, ne_eq, implies_true, Nat.not_lt_zero, Nat.zero_le]
              try simp only [m1u]
              have hdn : ∀ v', dvs (cq i) 2 = some v' → False := fun v' h => by
                have h : (if _ then some _ else none) = some v' := h
                rw [if_neg hy] at h; cases h
              repeat' (with_reducible first | apply And.intro | intro)
              all_goals first
                | omega
                | contradiction
                | exact hsk _ _ _ _ _ (fun v' g1 _ _ => (hdn v' g1).elim)
                | (exfalso; omega)
          · by_cases hy : cq i / 10 < 9
            · obtain ⟨v, hv⟩ : ∃ v, v = cq i + 10 := ⟨_, rfl⟩
              have hv1 : v < 100 := by omega
              have hdv : dvs (cq i) 3 = some v := by show (if _ then _ else _) = _; rw [if_pos hy, hv]
              have haj : aj4 (cq i) v := by unfold aj4; omega
              have ev : 10 * (cq i / 10 + 1) + (cq i - cq i / 10 * 10 + 0) = v := by omega
              refine wp_sound (by rw [hi]; exact ok_X7_from) (hd := [53, 69, 94, 256]) 400 _ _ _ _ _ _ ?_
              simp only [wp, stp, List.mem_cons, List.not_mem_nil, Nat.reduceEqDiff, or_false, or_self, false_or, or_true, true_or, Nat.reduceAdd, ↓reduceIte, List.getElem?_cons_zero, List.getElem?_cons_succ, nthV, List.set_cons_zero, List.set_cons_succ, noL, popA, catS, Value.category, List.length_cons, List.length_nil, Nat.reduceLT, Nat.reduceLeDiff, true_and, and_true, one0, zer1, imp_t, imp_f, ofN_nI, sdead, f20, f21, not_true_eq_false, upC_ap, retC, fitC, isRefT, Option.toList_some, Option.toList_none, List.cons_append, List.nil_append, Nat.lt_add_one, Nat.zero_lt_succ, Nat.le_refl, Nat.add_zero, Nat.zero_add, Nat.one_ne_zero, Nat.zero_ne_one, Nat.lt_irrefl, List.length_set, fa_X7_from, hi, hd, hQ, mr_X7_from, m0, m3, mp, mx, my', mc, c1, mk, e0, e1, uP, uQ, sv, cl3, bx_3, by_3, hrow2, pO, q1, q2, q3, q4, q5, q6, q7]
              try simp only [m1f]
              try simp (disch := omega) only [nI_leI, nI_ltI, nI_eq, nI_clamp, vin_nI, nI_1, fa_lit, nI_add, nI_rm3, nI_rm2, pk_rem, pk_mul, pk_sub, pk_div, nI_eM, nI_Me, nI_pM, nI_pMz, nI_pM0, M1_lt, M1_le, nI_ltM, nI_leM, i8_nI, true_and, and_true, false_implies, true_implies, not_false_eq_true, not_true_eq_false, ne_eq, implies_true, Nat.not_lt_zero, Nat.zero_le]
              try simp only [m1u]
              simp only [ev, c2' v hv1]
              repeat' (with_reducible first | apply And.intro | intro)
              all_goals first
                | omega
                | contradiction
                | (refine hsk _ _ _ _ _ (fun v' g1 g2 g3 => ?_)
                   rw [hdv] at g1; cases g1
                   first
                     | assumption
                     | exact fun e => absurd (hBI.sideV hik hdv g2 g3 haj e).2 (by omega)
                     | (obtain ⟨⟨g4, g5, g6⟩, g7⟩ := g3
                        first
                          | (exfalso; omega)
                          | (exfalso; rcases g7 with g7 | g7 <;> first | contradiction | exact absurd g7.1 (by assumption) | exact absurd rfl g7.2 | simp_all)))
                | (refine hvi v _ _ _ _ _ hdv hv1 ⟨⟨hv1, by omega, by omega⟩, ?_⟩ haj (by assumption)
                   first | exact Or.inl (by assumption) | exact Or.inr ⟨by assumption, by decide⟩)
            · refine wp_sound (by rw [hi]; exact ok_X7_from) (hd := [53, 69, 94, 256]) 400 _ _ _ _ _ _ ?_
              simp only [wp, stp, List.mem_cons, List.not_mem_nil, Nat.reduceEqDiff, or_false, or_self, false_or, or_true, true_or, Nat.reduceAdd, ↓reduceIte, List.getElem?_cons_zero, List.getElem?_cons_succ, nthV, List.set_cons_zero, List.set_cons_succ, noL, popA, catS, Value.category, List.length_cons, List.length_nil, Nat.reduceLT, Nat.reduceLeDiff, true_and, and_true, one0, zer1, imp_t, imp_f, ofN_nI, sdead, f20, f21, not_true_eq_false, upC_ap, retC, fitC, isRefT, Option.toList_some, Option.toList_none, List.cons_append, List.nil_append, Nat.lt_add_one, Nat.zero_lt_succ, Nat.le_refl, Nat.add_zero, Nat.zero_add, Nat.one_ne_zero, Nat.zero_ne_one, Nat.lt_irrefl, List.length_set, fa_X7_from, hi, hd, hQ, mr_X7_from, m0, m3, mp, mx, my', mc, c1, mk, e0, e1, uP, uQ, sv, cl3, bx_3, by_3, hrow2, pO, q1, q2, q3, q4, q5, q6, q7]
              try simp only [m1f]
              try simp (disch := omega) only [nI_leI, nI_ltI, nI_eq, nI_clamp, vin_nI, nI_1, fa_lit, nI_add, nI_rm3, nI_rm2, pk_rem, pk_mul, pk_sub, pk_div, nI_eM, nI_Me, nI_pM, nI_pMz, nI_pM0, M1_lt, M1_le, nI_ltM, nI_leM, i8_nI, true_and, and_true, false_implies, true_implies, not_false_eq_true, not_true_eq_false, ne_eq, implies_true, Nat.not_lt_zero, Nat.zero_le]
              try simp only [m1u]
              have hdn : ∀ v', dvs (cq i) 3 = some v' → False := fun v' h => by
                have h : (if _ then some _ else none) = some v' := h
                rw [if_neg hy] at h; cases h
              repeat' (with_reducible first | apply And.intro | intro)
              all_goals first
                | omega
                | contradiction
                | exact hsk _ _ _ _ _ (fun v' g1 _ _ => (hdn v' g1).elim)
                | (exfalso; omega)
      refine wp_sound (by rw [hi]; exact ok_X7_from) (hd := [53, 69, 94]) 400 _ _ _ _ _ _ ?_
      simp only [wp, stp, List.mem_cons, List.not_mem_nil, Nat.reduceEqDiff, or_false, or_self, false_or, or_true, true_or, Nat.reduceAdd, ↓reduceIte, List.getElem?_cons_zero, List.getElem?_cons_succ, nthV, List.set_cons_zero, List.set_cons_succ, noL, popA, catS, Value.category, List.length_cons, List.length_nil, Nat.reduceLT, Nat.reduceLeDiff, true_and, and_true, one0, zer1, imp_t, imp_f, ofN_nI, sdead, f20, f21, not_true_eq_false, upC_ap, retC, fitC, isRefT, Option.toList_some, Option.toList_none, List.cons_append, List.nil_append, Nat.lt_add_one, Nat.zero_lt_succ, Nat.le_refl, Nat.add_zero, Nat.zero_add, Nat.one_ne_zero, Nat.zero_ne_one, Nat.lt_irrefl, List.length_set, fa_X7_from, hi, hd, hQ, mr_X7_from, m0, m3, mp]
      try simp only [m1f]
      try simp (disch := omega) only [nI_leI, nI_ltI, nI_eq, nI_clamp, vin_nI, nI_1, fa_lit, nI_add, nI_rm3, nI_rm2, pk_rem, pk_mul, pk_sub, pk_div, nI_eM, nI_Me, nI_pM, nI_pMz, nI_pM0, M1_lt, M1_le, nI_ltM, nI_leM, i8_nI, true_and, and_true, false_implies, true_implies, not_false_eq_true, not_true_eq_false, ne_eq, implies_true, Nat.not_lt_zero, Nat.zero_le]
      try simp only [m1u]
      refine ⟨fun h => fin r q (fun j hj => ?_), fun h => ?_⟩
      · have e : i = kn := by omega
        subst e
        exact hBI.done hj
      · rw [hq i (by omega)]
        refine ⟨fun h2 => absurd h2 (by omega), fun _ => ⟨by omega, ?_⟩⟩
        exact inner 4 0 r q cq lv kn _ _ _ _ _ rfl (hBI.cong (fun v hv => by obtain ⟨t, h1, -⟩ := hv; omega)) (by omega) hq ho
  refine wp_sound (by rw [hi]; exact ok_X7_from) (hd := [53, 69, 94]) 400 _ _ _ _ _ _ ?_
  simp only [wp, stp, List.mem_cons, List.not_mem_nil, Nat.reduceEqDiff, or_false, or_self, false_or, or_true, true_or, Nat.reduceAdd, ↓reduceIte, List.getElem?_cons_zero, List.getElem?_cons_succ, nthV, List.set_cons_zero, List.set_cons_succ, noL, popA, catS, Value.category, List.length_cons, List.length_nil, Nat.reduceLT, Nat.reduceLeDiff, true_and, and_true, one0, zer1, imp_t, imp_f, ofN_nI, sdead, f20, f21, not_true_eq_false, upC_ap, retC, fitC, isRefT, Option.toList_some, Option.toList_none, List.cons_append, List.nil_append, Nat.lt_add_one, Nat.zero_lt_succ, Nat.le_refl, Nat.add_zero, Nat.zero_add, Nat.one_ne_zero, Nat.zero_ne_one, Nat.lt_irrefl, List.length_set, fa_X7_from, hi, hd, hQ, mr_X7_from, w1, w2, w3, w4, p3]
  try simp only [m1f]
  try simp (disch := omega) only [nI_leI, nI_ltI, nI_eq, nI_clamp, vin_nI, nI_1, fa_lit, nI_add, nI_rm3, nI_rm2, pk_rem, pk_mul, pk_sub, pk_div, nI_eM, nI_Me, nI_pM, nI_pMz, nI_pM0, M1_lt, M1_le, nI_ltM, nI_leM, i8_nI, true_and, and_true, false_implies, true_implies, not_false_eq_true, not_true_eq_false, ne_eq, implies_true, Nat.not_lt_zero, Nat.zero_le]
  try simp only [m1u]
  refine ⟨ha, fun hs => ⟨ha, hd1, _, t_fillB hG (r := p) (N := 100) (g := r0) pO (by rw [upC_ne _ _ (by omega)]; exact p3) (by omega) (-1), ?_⟩, fun hs => hpost f r0 (p4 hs hop) p3 hW ⟨fun _ _ _ => rfl, fun _ _ _ _ => rfl, fun _ _ => rfl⟩⟩
  rintro v n' z' f' ⟨rfl, rfl, rfl, h, rfl, hh⟩
  refine wp_sound (by rw [hi]; exact ok_X7_from) (hd := [53, 69, 94]) 400 _ _ _ _ _ _ ?_
  simp only [wp, stp, List.mem_cons, List.not_mem_nil, Nat.reduceEqDiff, or_false, or_self, false_or, or_true, true_or, Nat.reduceAdd, ↓reduceIte, List.getElem?_cons_zero, List.getElem?_cons_succ, nthV, List.set_cons_zero, List.set_cons_succ, noL, popA, catS, Value.category, List.length_cons, List.length_nil, Nat.reduceLT, Nat.reduceLeDiff, true_and, and_true, one0, zer1, imp_t, imp_f, ofN_nI, sdead, f20, f21, not_true_eq_false, upC_ap, retC, fitC, isRefT, Option.toList_some, Option.toList_none, List.cons_append, List.nil_append, Nat.lt_add_one, Nat.zero_lt_succ, Nat.le_refl, Nat.add_zero, Nat.zero_add, Nat.one_ne_zero, Nat.zero_ne_one, Nat.lt_irrefl, List.length_set, fa_X7_from, hi, hd, hQ, mr_X7_from, w1, w2, w3, w4, p3, q1, q2, q3, q4, q5, q6, pO]
  try simp only [m1f]
  try simp (disch := omega) only [nI_leI, nI_ltI, nI_eq, nI_clamp, vin_nI, nI_1, fa_lit, nI_add, nI_rm3, nI_rm2, pk_rem, pk_mul, pk_sub, pk_div, nI_eM, nI_Me, nI_pM, nI_pMz, nI_pM0, M1_lt, M1_le, nI_ltM, nI_leM, i8_nI, true_and, and_true, false_implies, true_implies, not_false_eq_true, not_true_eq_false, ne_eq, implies_true, Nat.not_lt_zero, Nat.zero_le]
  try simp only [m1u]
  refine ⟨ha, ?_⟩
  have hm : upC (upC (upC (upC f 14 (cI 100 (upd sg a (nI k)))) p (cB 100 h)) p (cB 100 (upd h a 0))) 15 (cI 100 (upd qq 0 (nI a))) = Mm (upd h a 0) (upd qq 0 (nI a)) := by rw [hMm, upC_upC]
  have key := outer 100 0 (upd h a 0) (upd qq 0 (nI a)) (fun _ => a) (fun _ => 0) 1 u5 u6 u7 u8 u9 u10 u11 rfl (BI.start ha (by simp [upd]; rfl) (fun c hc hne => by rw [upd, if_neg hne]; exact hh c hc)) (fun j hj => by rw [upd, if_pos (by omega)]) (fun _ _ => hop)
  rw [← hm] at key
  exact ⟨by omega, key⟩
/-- the two sides' search, from the place where the row is known -/
theorem from23_16 {X : Fx} (hi : X.i = 87) (hd : X.d = d) (hd1 : 1 ≤ d) (hG : Ok G) (hB : Bd S) {a p n z k : Nat} {f : Mf} {g : Nat → Option Nat} (hC : CR S lp f) (hO : OC f) (hW : WyR S 0 16 f n g k) (ha : a < 100) (hop : opS S 0 a) (hg : g a = some p) (hnO : n < 1000000) {Q : Po} (hQ : X.Q = Q)
    (hpost : ∀ f' r, (∀ j, j < 100 → r j = wayS S 0 a j) → f' p = cB 100 r → WyR S 0 16 f' n g k → FRw 16 f n g f' → Q (some (.ref p)) n z f') (u3 u4 u5 u6 u7 u8 u9 u10 u11 : Value) :
    V G X 23 [.ref 16, .int (nI a), .ref p, u3, u4, u5, u6, u7, u8, u9, u10, u11] [] n z f := by
  obtain ⟨sg, qq, w1, w2, w3, w4, w5, w6, w7, w8⟩ := id hW
  obtain ⟨c1, kd, ya, fa, mo, co, mv, tp, my, c2, c2', -⟩ := id hC
  obtain ⟨o1, o2⟩ := hO
  obtain ⟨p1, p2, r0, p3, p4⟩ := w7 a ha p hg
  obtain ⟨-, -, wd, ht, e0, e1, hw1, hw2, hh1, hh2⟩ := hB
  have ewd : wdt S = wd := by rw [wdt, e0, nI_clamp (by omega)]
  have eht : hgt S = ht := by rw [hgt, e1, nI_clamp (by omega)]
  have pne : ∀ q, q < 49 → ¬ q = p := fun q hq => by omega
  have pO : p < 1000000 := by omega
  have q1 : (p = 18) = False := eq_false (by omega)
  have q2 : (p = 19) = False := eq_false (by omega)
  have q3 : (18 = p) = False := eq_false (by omega)
  have q4 : (19 = p) = False := eq_false (by omega)
  have q5 : (16 = p) = False := eq_false (by omega)
  have q6 : (1 = p) = False := eq_false (by omega)
  have q7 : (2 = p) = False := eq_false (by omega)
  have q8 : (1000000 = p) = False := eq_false (by omega)
  have q9 : (1000001 = p) = False := eq_false (by omega)
  obtain ⟨Mm, hMm⟩ : ∃ Mm : (Nat → Int32) → (Nat → Int32) → Mf, Mm = fun r q => upC (upC (upC f 18 (cI 100 (upd sg a (nI k)))) p (cB 100 r)) 19 (cI 100 q) := ⟨_, rfl⟩
  have m0 : ∀ r q, Mm r q 16 = cO 7 [.ref 1, .int 0, .ref 17, .ref 18, .ref 19, .int (nI k)] := fun r q => by rw [hMm]; simp only [upC_ap, q5]; exact w1
  have m3 : ∀ r q, Mm r q 19 = cI 100 q := fun r q => by rw [hMm]; exact upC_self _ _ _
  have mp : ∀ r q, Mm r q p = cB 100 r := fun r q => by rw [hMm]; simp only [upC_ap, q2, if_false, if_true]
  have mc : ∀ r q, Mm r q 1 = f 1 := fun r q => by rw [hMm]; simp only [upC_ap, q6]; rfl
  have mk : ∀ r q, Mm r q 2 = cI 100 kd := fun r q => by rw [hMm]; simp only [upC_ap, q7]; exact c2
  have mx : ∀ r q, Mm r q 1000000 = cI 4 bxF := fun r q => by rw [hMm]; simp only [upC_ap, q8]; exact o1
  have my' : ∀ r q, Mm r q 1000001 = cI 4 byF := fun r q => by rw [hMm]; simp only [upC_ap, q9]; exact o2
  have uP : ∀ r q r', upC (Mm r q) p (cB 100 r') = Mm r' q := fun r q r' => by rw [hMm]; show upC (upC (upC _ p _) _ _) p _ = upC (upC _ p _) _ _; rw [upC_comm _ (by omega : 19 ≠ p), upC_upC]
  have uQ : ∀ r q q', upC (Mm r q) 19 (cI 100 q') = Mm r q' := fun r q q' => by rw [hMm]; exact upC_upC _ _ _ _
  have fin : ∀ r q, (∀ j, j < 100 → r j = wayS S 0 a j) → Q (some (.ref p)) n z (Mm r q) := by
    intro r q hr
    have old : ∀ x, ¬ x = 18 → ¬ x = 19 → ¬ x = p → Mm r q x = f x := fun x h1 h2 h3 => by rw [hMm]; simp only [upC_ap, if_neg h1, if_neg h2, if_neg h3]
    refine hpost (Mm r q) r hr (mp r q) ⟨upd sg a (nI k), q, m0 r q, by rw [old _ (by omega) (by omega) (by omega)]; exact w2, by rw [hMm]; simp only [upC_ap, q3]; rfl, m3 r q, w5, fun i hi => ?_, fun i hi p' hp' => ?_, w8⟩ ⟨fun x hx hn => ?_, fun x h1 h2 h3 => ?_, fun x hx => ?_⟩
    · by_cases e : i = a
      · subst e
        rw [upd, if_pos rfl]
        exact ⟨⟨k, Nat.le_refl _, rfl⟩, fun h => by rw [hg] at h; cases h⟩
      · rw [upd, if_neg e]; exact w6 i hi
    · obtain ⟨a1, a2, rr, a3, a4⟩ := w7 i hi p' hp'
      by_cases e : i = a
      · subst e
        rw [hg] at hp'; cases hp'
        exact ⟨a1, a2, r, mp r q, fun _ _ => hr⟩
      · have hne : ¬ p' = p := fun h => e (w8 i a p hi ha (h ▸ hp') hg)
        exact ⟨a1, a2, rr, by rw [old _ (by omega) (by omega) hne]; exact a3, by rw [upd, if_neg e]; exact a4⟩
    · exact old x (fun h => hn (by omega)) (fun h => hn (by omega)) (by omega)
    · exact old x (by omega) (by omega) (fun h => h3 a ha (h ▸ hg))
    · exact old x (by omega) (by omega) (by omega)
  have outer : ∀ t i r q cq lv kn u5 u6 u7 u8 u9 u10 u11, i + t = 100 → BI (opS S 0) aj4 a r cq lv kn i (fun _ => False) → (∀ j, j < kn → q j = nI (cq j)) → (∀ j, j < kn → opS S 0 (cq j)) → V G X 69 [.ref 16, .int (nI a), .ref p, .int (nI kn), .int (nI i), u5, u6, u7, u8, u9, u10, u11] [] n z (Mm r q) := by
    intro t
    induction t with
    | zero =>
      intro i r q cq lv kn u5 u6 u7 u8 u9 u10 u11 ht hBI hq ho
      have hle := hBI.le
      have hik := hBI.2.2.2.2.2.2.2.2
      have e : i = kn := by omega
      subst e
      refine wp_sound (by rw [hi]; exact ok_X7_from) (hd := [53, 69, 94]) 400 _ _ _ _ _ _ ?_
      simp only [wp, stp, List.mem_cons, List.not_mem_nil, Nat.reduceEqDiff, or_false, or_self, false_or, or_true, true_or, Nat.reduceAdd, ↓reduceIte, List.getElem?_cons_zero, List.getElem?_cons_succ, nthV, List.set_cons_zero, List.set_cons_succ, noL, popA, catS, Value.category, List.length_cons, List.length_nil, Nat.reduceLT, Nat.reduceLeDiff, true_and, and_true, one0, zer1, imp_t, imp_f, ofN_nI, sdead, f20, f21, not_true_eq_false, upC_ap, retC, fitC, isRefT, Option.toList_some, Option.toList_none, List.cons_append, List.nil_append, Nat.lt_add_one, Nat.zero_lt_succ, Nat.le_refl, Nat.add_zero, Nat.zero_add, Nat.one_ne_zero, Nat.zero_ne_one, Nat.lt_irrefl, List.length_set, fa_X7_from, hi, hd, hQ, mr_X7_from, m0, m3, mp]
      try simp only [m1f]
      try simp (disch := omega) only [nI_leI, nI_ltI, nI_eq, nI_clamp, vin_nI, nI_1, fa_lit, nI_add, nI_rm3, nI_rm2, pk_rem, pk_mul, pk_sub, pk_div, nI_eM, nI_Me, nI_pM, nI_pMz, nI_pM0, M1_lt, M1_le, nI_ltM, nI_leM, i8_nI, true_and, and_true, false_implies, true_implies, not_false_eq_true, not_true_eq_false, ne_eq, implies_true, Nat.not_lt_zero, Nat.zero_le]
      try simp only [m1u]
      exact ⟨fun _ => fin r q (fun j hj => hBI.done hj), fun h => absurd (Nat.le_refl _) h⟩
    | succ t ih =>
      intro i r q cq lv kn u5 u6 u7 u8 u9 u10 u11 ht hBI hq ho
      have hle := hBI.le
      have hik := hBI.2.2.2.2.2.2.2.2
      have inner : ∀ t2 s r q cq lv kn u7 u8 u9 u10 u11, s + t2 = 4 → BI (opS S 0) aj4 a r cq lv kn i (Sd (cq i) s) → i < kn → (∀ j, j < kn → q j = nI (cq j)) → (∀ j, j < kn → opS S 0 (cq j)) → V G X 94 [.ref 16, .int (nI a), .ref p, .int (nI kn), .int (nI i), .int (nI (cq i)), .int (nI s), u7, u8, u9, u10, u11] [] n z (Mm r q) := by
        intro t2
        induction t2 with
        | zero =>
          intro s r q cq lv kn u7 u8 u9 u10 u11 hs hBI hik hq ho
          have e : s = 4 := by omega
          subst e
          have hle := hBI.le
          have hnx := fun u5 u6 u7 u8 u9 u10 u11 => ih (i + 1) r q cq lv kn u5 u6 u7 u8 u9 u10 u11 (by omega) (hBI.next hik (fun v hv _ haj => aj4_dvs (ho i hik).1.1 hv haj)) hq ho
          refine wp_sound (by rw [hi]; exact ok_X7_from) (hd := [53, 69, 94]) 400 _ _ _ _ _ _ ?_
          simp only [wp, stp, List.mem_cons, List.not_mem_nil, Nat.reduceEqDiff, or_false, or_self, false_or, or_true, true_or, Nat.reduceAdd, ↓reduceIte, List.getElem?_cons_zero, List.getElem?_cons_succ, nthV, List.set_cons_zero, List.set_cons_succ, noL, popA, catS, Value.category, List.length_cons, List.length_nil, Nat.reduceLT, Nat.reduceLeDiff, true_and, and_true, one0, zer1, imp_t, imp_f, ofN_nI, sdead, f20, f21, not_true_eq_false, upC_ap, retC, fitC, isRefT, Option.toList_some, Option.toList_none, List.cons_append, List.nil_append, Nat.lt_add_one, Nat.zero_lt_succ, Nat.le_refl, Nat.add_zero, Nat.zero_add, Nat.one_ne_zero, Nat.zero_ne_one, Nat.lt_irrefl, List.length_set, fa_X7_from, hi, hd, hQ, mr_X7_from, m0, m3, mp, mx, sv]
          try simp only [m1f]
          try simp (disch := omega) only [nI_leI, nI_ltI, nI_eq, nI_clamp, vin_nI, nI_1, fa_lit, nI_add, nI_rm3, nI_rm2, pk_rem, pk_mul, pk_sub, pk_div, nI_eM, nI_Me, nI_pM, nI_pMz, nI_pM0, M1_lt, M1_le, nI_ltM, nI_leM, i8_nI, true_and, and_true, false_implies, true_implies, not_false_eq_true, not_true_eq_false, ne_eq, implies_true, Nat.not_lt_zero, Nat.zero_le]
          try simp only [m1u]
          constructor
          · intro _
            exact hnx _ _ _ _ _ _ _
          · intro h
            exact absurd (by first | exact Nat.le_refl _ | trivial) h
        | succ t2 ih2 =>
          intro s r q cq lv kn u7 u8 u9 u10 u11 hs hBI hik hq ho
          have hle := hBI.le
          obtain ⟨⟨hu1, hu2, hu3⟩, -⟩ := ho i hik
          obtain ⟨-, hl1, hl2, -⟩ := hBI.1 i hik
          have h256 : ∀ r q cq2 lv kn u7 u8 u9 u10 u11, cq2 i = cq i → BI (opS S 0) aj4 a r cq2 lv kn i (Sd (cq2 i) (s + 1)) → i < kn → (∀ j, j < kn → q j = nI (cq2 j)) → (∀ j, j < kn → opS S 0 (cq2 j)) → V G X 256 [.ref 16, .int (nI a), .ref p, .int (nI kn), .int (nI i), .int (nI (cq i)), .int (nI s), u7, u8, u9, u10, u11] [] n z (Mm r q) := by
            intro r q cq2 lv kn u7 u8 u9 u10 u11 e hB hik hq ho
            have := ih2 (s + 1) r q cq2 lv kn u7 u8 u9 u10 u11 (by omega) hB hik hq ho
            rw [e] at this
            refine wp_sound (by rw [hi]; exact ok_X7_from) (hd := [53, 69, 94]) 400 _ _ _ _ _ _ ?_
            simp only [wp, stp, List.mem_cons, List.not_mem_nil, Nat.reduceEqDiff, or_false, or_self, false_or, or_true, true_or, Nat.reduceAdd, ↓reduceIte, List.getElem?_cons_zero, List.getElem?_cons_succ, nthV, List.set_cons_zero, List.set_cons_succ, noL, popA, catS, Value.category, List.length_cons, List.length_nil, Nat.reduceLT, Nat.reduceLeDiff, true_and, and_true, one0, zer1, imp_t, imp_f, ofN_nI, sdead, f20, f21, not_true_eq_false, upC_ap, retC, fitC, isRefT, Option.toList_some, Option.toList_none, List.cons_append, List.nil_append, Nat.lt_add_one, Nat.zero_lt_succ, Nat.le_refl, Nat.add_zero, Nat.zero_add, Nat.one_ne_zero, Nat.zero_ne_one, Nat.lt_irrefl, List.length_set, fa_X7_from, hi, hd, hQ, mr_X7_from, m0]
            try simp only [m1f]
            try simp (disch := omega) only [nI_leI, nI_ltI, nI_eq, nI_clamp, vin_nI, nI_1, fa_lit, nI_add, nI_rm3, nI_rm2, pk_rem, pk_mul, pk_sub, pk_div, nI_eM, nI_Me, nI_pM, nI_pMz, nI_pM0, M1_lt, M1_le, nI_ltM, nI_leM, i8_nI, true_and, and_true, false_implies, true_implies, not_false_eq_true, not_true_eq_false, ne_eq, implies_true, Nat.not_lt_zero, Nat.zero_le]
            try simp only [m1u]
            exact this
          have hsk : ∀ u7 u8 u9 u10 u11, (∀ v, dvs (cq i) s = some v → v < 100 → opS S 0 v → ¬ r v = -1) → V G X 256 [.ref 16, .int (nI a), .ref p, .int (nI kn), .int (nI i), .int (nI (cq i)), .int (nI s), u7, u8, u9, u10, u11] [] n z (Mm r q) := fun u7 u8 u9 u10 u11 hv => h256 r q cq lv kn u7 u8 u9 u10 u11 rfl (hBI.side hik hv) hik hq ho
          have hvi : ∀ v u7 u8 u9 u10 u11, dvs (cq i) s = some v → v < 100 → opS S 0 v → aj4 (cq i) v → r v = -1 → V G X 256 [.ref 16, .int (nI a), .ref p, .int (nI (kn + 1)), .int (nI i), .int (nI (cq i)), .int (nI s), u7, u8, u9, u10, u11] [] n z (Mm (upd r v (nI (lv i + 1))) (upd q kn (nI v))) := by
            intro v u7 u8 u9 u10 u11 hv1 hv2 hv3 hv4 hv5
            obtain ⟨hB, hlt⟩ := hBI.sideV hik hv1 hv2 hv3 hv4 hv5
            have ei : (if i = kn then v else cq i) = cq i := if_neg (by omega)
            refine h256 _ _ (fun j => if j = kn then v else cq j) (fun j => if j = kn then lv i + 1 else lv j) (kn + 1) u7 u8 u9 u10 u11 ei ?_ (by omega) (fun j hj => ?_) (fun j hj => ?_)
            · show BI _ _ _ _ _ _ _ _ (Sd (if i = kn then v else cq i) (s + 1))
              rw [ei]; exact hB
            · by_cases e : j = kn
              · subst e; simp [upd]
              · rw [upd, if_neg e]; simp only [if_neg e]; exact hq j (by omega)
            · by_cases e : j = kn
              · subst e; simp only [if_true]; exact hv3
              · simp only [if_neg e]; exact ho j (by omega)
          have hrow2 : r (nI (cq i)).toNatClampNeg = nI (lv i) := by rw [nI_clamp (by omega)]; exact hl1
          rcases (by omega : s = 0 ∨ s = 1 ∨ s = 2 ∨ s = 3) with rfl | rfl | rfl | rfl
          · by_cases hy : 0 < cq i / 10
            · obtain ⟨v, hv⟩ : ∃ v, v = cq i - 10 := ⟨_, rfl⟩
              have hv1 : v < 100 := by omega
              have hdv : dvs (cq i) 0 = some v := by show (if _ then _ else _) = _; rw [if_pos hy, hv]
              have haj : aj4 (cq i) v := by unfold aj4; omega
              have ev : 10 * (cq i / 10 - 1) + (cq i - cq i / 10 * 10 + 0) = v := by omega
              refine wp_sound (by rw [hi]; exact ok_X7_from) (hd := [53, 69, 94, 256]) 400 _ _ _ _ _ _ ?_
              simp only [wp, stp, List.mem_cons, List.not_mem_nil, Nat.reduceEqDiff, or_false, or_self, false_or, or_true, true_or, Nat.reduceAdd, ↓reduceIte, List.getElem?_cons_zero, List.getElem?_cons_succ, nthV, List.set_cons_zero, List.set_cons_succ, noL, popA, catS, Value.category, List.length_cons, List.length_nil, Nat.reduceLT, Nat.reduceLeDiff, true_and, and_true, one0, zer1, imp_t, imp_f, ofN_nI, sdead, f20, f21, not_true_eq_false, upC_ap, retC, fitC, isRefT, Option.toList_some, Option.toList_none, List.cons_append, List.nil_append, Nat.lt_add_one, Nat.zero_lt_succ, Nat.le_refl, Nat.add_zero, Nat.zero_add, Nat.one_ne_zero, Nat.zero_ne_one, Nat.lt_irrefl, List.length_set, fa_X7_from, hi, hd, hQ, mr_X7_from, m0, m3, mp, mx, my', mc, c1, mk, e0, e1, uP, uQ, sv, cl0, bx_0, by_0, hrow2, pO, q1, q2, q3, q4, q5, q6, q7]
              try simp only [m1f]
              try simp (disch := omega) only [nI_leI, nI_ltI, nI_eq, nI_clamp, vin_nI, nI_1, fa_lit, nI_add, nI_rm3, nI_rm2, pk_rem, pk_mul, pk_sub, pk_div, nI_eM, nI_Me, nI_pM, nI_pMz, nI_pM0, M1_lt, M1_le, nI_ltM, nI_leM, i8_nI, true_and, and_true, false_implies, true_implies, not_false_eq_true, not_true_eq_false, ne_eq, implies_true, Nat.not_lt_zero, Nat.zero_le]
              try simp only [m1u]
              simp only [ev, c2' v hv1]
              repeat' (with_reducible first | apply And.intro | intro)
              all_goals first
                | omega
                | contradiction
                | (refine hsk _ _ _ _ _ (fun v' g1 g2 g3 => ?_)
                   rw [hdv] at g1; cases g1
                   first
                     | assumption
                     | exact fun e => absurd (hBI.sideV hik hdv g2 g3 haj e).2 (by omega)
                     | (obtain ⟨⟨g4, g5, g6⟩, g7⟩ := g3
                        first
                          | (exfalso; omega)
                          | (exfalso; rcases g7 with g7 | g7 <;> first | contradiction | exact absurd g7.1 (by assumption) | exact absurd rfl g7.2 | simp_all)))
                | (refine hvi v _ _ _ _ _ hdv hv1 ⟨⟨hv1, by omega, by omega⟩, ?_⟩ haj (by assumption)
                   first | exact Or.inl (by assumption) | exact Or.inr ⟨by assumption, by decide⟩)
            · refine wp_sound (by rw [hi]; exact ok_X7_from) (hd := [53, 69, 94, 256]) 400 _ _ _ _ _ _ ?_
              simp only [wp, stp, List.mem_cons, List.not_mem_nil, Nat.reduceEqDiff, or_false, or_self, false_or, or_true, true_or, Nat.reduceAdd, ↓reduceIte, List.getElem?_cons_zero, List.getElem?_cons_succ, nthV, List.set_cons_zero, List.set_cons_succ, noL, popA, catS, Value.category, List.length_cons, List.length_nil, Nat.reduceLT, Nat.reduceLeDiff, true_and, and_true, one0, zer1, imp_t, imp_f, ofN_nI, sdead, f20, f21, not_true_eq_false, upC_ap, retC, fitC, isRefT, Option.toList_some, Option.toList_none, List.cons_append, List.nil_append, Nat.lt_add_one, Nat.zero_lt_succ, Nat.le_refl, Nat.add_zero, Nat.zero_add, Nat.one_ne_zero, Nat.zero_ne_one, Nat.lt_irrefl, List.length_set, fa_X7_from, hi, hd, hQ, mr_X7_from, m0, m3, mp, mx, my', mc, c1, mk, e0, e1, uP, uQ, sv, cl0, bx_0, by_0, hrow2, pO, q1, q2, q3, q4, q5, q6, q7]
              try simp only [m1f]
              try simp (disch := omega) only [nI_leI, nI_ltI, nI_eq, nI_clamp, vin_nI, nI_1, fa_lit, nI_add, nI_rm3, nI_rm2, pk_rem, pk_mul, pk_sub, pk_div, nI_eM, nI_Me, nI_pM, nI_pMz, nI_pM0, M1_lt, M1_le, nI_ltM, nI_leM, i8_nI, true_and, and_true, false_implies, true_implies, not_false_eq_true, not_true_eq_false, ne_eq, implies_true, Nat.not_lt_zero, Nat.zero_le]
              try simp only [m1u]
              have hdn : ∀ v', dvs (cq i) 0 = some v' → False := fun v' h => by
                have h : (if _ then some _ else none) = some v' := h
                rw [if_neg hy] at h; cases h
              repeat' (with_reducible first | apply And.intro | intro)
              all_goals first
                | omega
                | contradiction
                | exact hsk _ _ _ _ _ (fun v' g1 _ _ => (hdn v' g1).elim)
                | (exfalso; omega)
          · by_cases hy : 0 < cq i % 10
            · obtain ⟨v, hv⟩ : ∃ v, v = cq i - 1 := ⟨_, rfl⟩
              have hv1 : v < 100 := by omega
              have hdv : dvs (cq i) 1 = some v := by show (if _ then _ else _) = _; rw [if_pos hy, hv]
              have haj : aj4 (cq i) v := by unfold aj4; omega
              have ev : 10 * (cq i / 10 + 0) + (cq i - cq i / 10 * 10 - 1) = v := by omega
              refine wp_sound (by rw [hi]; exact ok_X7_from) (hd := [53, 69, 94, 256]) 400 _ _ _ _ _ _ ?_
              simp only [wp, stp, List.mem_cons, List.not_mem_nil, Nat.reduceEqDiff, or_false, or_self, false_or, or_true, true_or, Nat.reduceAdd, ↓reduceIte, List.getElem?_cons_zero, List.getElem?_cons_succ, nthV, List.set_cons_zero, List.set_cons_succ, noL, popA, catS, Value.category, List.length_cons, List.length_nil, Nat.reduceLT, Nat.reduceLeDiff, true_and, and_true, one0, zer1, imp_t, imp_f, ofN_nI, sdead, f20, f21, not_true_eq_false, upC_ap, retC, fitC, isRefT, Option.toList_some, Option.toList_none, List.cons_append, List.nil_append, Nat.lt_add_one, Nat.zero_lt_succ, Nat.le_refl, Nat.add_zero, Nat.zero_add, Nat.one_ne_zero, Nat.zero_ne_one, Nat.lt_irrefl, List.length_set, fa_X7_from, hi, hd, hQ, mr_X7_from, m0, m3, mp, mx, my', mc, c1, mk, e0, e1, uP, uQ, sv, cl1, bx_1, by_1, hrow2, pO, q1, q2, q3, q4, q5, q6, q7]
              try simp only [m1f]
              try simp (disch := omega) only [nI_leI, nI_ltI, nI_eq, nI_clamp, vin_nI, nI_1, fa_lit, nI_add, nI_rm3, nI_rm2, pk_rem, pk_mul, pk_sub, pk_div, nI_eM, nI_Me, nI_pM, nI_pMz, nI_pM0, M1_lt, M1_le, nI_ltM, nI_leM, i8_nI, true_and, and_true, false_implies, true_implies, not_false_eq_true, not_true_eq_false, ne_eq, implies_true, Nat.not_lt_zero, Nat.zero_le]
              try simp only [m1u]
              simp only [ev, c2' v hv1]
              repeat' (with_reducible first | apply And.intro | intro)
              all_goals first
                | omega
                | contradiction
                | (refine hsk _ _ _ _ _ (fun v' g1 g2 g3 => ?_)
                   rw [hdv] at g1; cases g1
                   first
                     | assumption
                     | exact fun e => absurd (hBI.sideV hik hdv g2 g3 haj e).2 (by omega)
                     | (obtain ⟨⟨g4, g5, g6⟩, g7⟩ := g3
                        first
                          | (exfalso; omega)
                          | (exfalso; rcases g7 with g7 | g7 <;> first | contradiction | exact absurd g7.1 (by assumption) | exact absurd rfl g7.2 | simp_all)))
                | (refine hvi v _ _ _ _ _ hdv hv1 ⟨⟨hv1, by omega, by omega⟩, ?_⟩ haj (by assumption)
                   first | exact Or.inl (by assumption) | exact Or.inr ⟨by assumption, by decide⟩)
            · refine wp_sound (by rw [hi]; exact ok_X7_from) (hd := [53, 69, 94, 256]) 400 _ _ _ _ _ _ ?_
              simp only [wp, stp, List.mem_cons, List.not_mem_nil, Nat.reduceEqDiff, or_false, or_self, false_or, or_true, true_or, Nat.reduceAdd, ↓reduceIte, List.getElem?_cons_zero, List.getElem?_cons_succ, nthV, List.set_cons_zero, List.set_cons_succ, noL, popA, catS, Value.category, List.length_cons, List.length_nil, Nat.reduceLT, Nat.reduceLeDiff, true_and, and_true, one0, zer1, imp_t, imp_f, ofN_nI, sdead, f20, f21, not_true_eq_false, upC_ap, retC, fitC, isRefT, Option.toList_some, Option.toList_none, List.cons_append, List.nil_append, Nat.lt_add_one, Nat.zero_lt_succ, Nat.le_refl, Nat.add_zero, Nat.zero_add, Nat.one_ne_zero, Nat.zero_ne_one, Nat.lt_irrefl, List.length_set, fa_X7_from, hi, hd, hQ, mr_X7_from, m0, m3, mp, mx, my', mc, c1, mk, e0, e1, uP, uQ, sv, cl1, bx_1, by_1, hrow2, pO, q1, q2, q3, q4, q5, q6, q7]
              try simp only [m1f]
              try simp (disch := omega) only [nI_leI, nI_ltI, nI_eq, nI_clamp, vin_nI, nI_1, fa_lit, nI_add, nI_rm3, nI_rm2, pk_rem, pk_mul, pk_sub, pk_div, nI_eM, nI_Me, nI_pM, nI_pMz, nI_pM0, M1_lt, M1_le, nI_ltM, nI_leM, i8_nI, true_and, and_true, false_implies, true_implies, not_false_eq_true, not_true_eq_false, ne_eq, implies_true, Nat.not_lt_zero, Nat.zero_le]
              try simp only [m1u]
              have hdn : ∀ v', dvs (cq i) 1 = some v' → False := fun v' h => by
                have h : (if _ then some _ else none) = some v' := h
                rw [if_neg hy] at h; cases h
              repeat' (with_reducible first | apply And.intro | intro)
              all_goals first
                | omega
                | contradiction
                | exact hsk _ _ _ _ _ (fun v' g1 _ _ => (hdn v' g1).elim)
                | (exfalso; omega)
          · by_cases hy : cq i % 10 < 9
            · obtain ⟨v, hv⟩ : ∃ v, v = cq i + 1 := ⟨_, rfl⟩
              have hv1 : v < 100 := by omega
              have hdv : dvs (cq i) 2 = some v := by show (if _ then _ else _) = _; rw [if_pos hy, hv]
              have haj : aj4 (cq i) v := by unfold aj4; omega
              have ev : 10 * (cq i / 10 + 0) + (cq i - cq i / 10 * 10 + 1) = v := by omega
              refine wp_sound (by rw [hi]; exact ok_X7_from) (hd := [53, 69, 94, 256]) 400 _ _ _ _ _ _ ?_
              simp only [wp, stp, List.mem_cons, List.not_mem_nil, Nat.reduceEqDiff, or_false, or_self, false_or, or_true, true_or, Nat.reduceAdd, ↓reduceIte, List.getElem?_cons_zero, List.getElem?_cons_succ, nthV, List.set_cons_zero, List.set_cons_succ, noL, popA, catS, Value.category, List.length_cons, List.length_nil, Nat.reduceLT, Nat.reduceLeDiff, true_and, and_true, one0, zer1, imp_t, imp_f, ofN_nI, sdead, f20, f21, not_true_eq_false, upC_ap, retC, fitC, isRefT, Option.toList_some, Option.toList_none, List.cons_append, List.nil_append, Nat.lt_add_one, Nat.zero_lt_succ, Nat.le_refl, Nat.add_zero, Nat.zero_add, Nat.one_ne_zero, Nat.zero_ne_one, Nat.lt_irrefl, List.length_set, fa_X7_from, hi, hd, hQ, mr_X7_from, m0, m3, mp, mx, my', mc, c1, mk, e0, e1, uP, uQ, sv, cl2, bx_2, by_2, hrow2, pO, q1, q2, q3, q4, q5, q6, q7]
              try simp only [m1f]
              try simp (disch := omega) only [nI_leI, nI_ltI, nI_eq, nI_clamp, vin_nI, nI_1, fa_lit, nI_add, nI_rm3, nI_rm2, pk_rem, pk_mul, pk_sub, pk_div, nI_eM, nI_Me, nI_pM, nI_pMz, nI_pM0, M1_lt, M1_le, nI_ltM, nI_leM, i8_nI, true_and, and_true, false_implies, true_implies, not_false_eq_true, not_true_eq_false, ne_eq, implies_true, Nat.not_lt_zero, Nat.zero_le]
              try simp only [m1u]
              simp only [ev, c2' v hv1]
              repeat' (with_reducible first | apply And.intro | intro)
              all_goals first
                | omega
                | contradiction
                | (refine hsk _ _ _ _ _ (fun v' g1 g2 g3 => ?_)
                   rw [hdv] at g1; cases g1
                   first
                     | assumption
                     | exact fun e => absurd (hBI.sideV hik hdv g2 g3 haj e).2 (by omega)
                     | (obtain ⟨⟨g4, g5, g6⟩, g7⟩ := g3
                        first
                          | (exfalso; omega)
                          | (exfalso; rcases g7 with g7 | g7 <;> first | contradiction | exact absurd g7.1 (by assumption) | exact absurd rfl g7.2 | simp_all)))
                | (refine hvi v _ _ _ _ _ hdv hv1 ⟨⟨hv1, by omega, by omega⟩, ?_⟩ haj (by assumption)
                   first | exact Or.inl (by assumption) | exact Or.inr ⟨by assumption, by decide⟩)
            · refine wp_sound (by rw [hi]; exact ok_X7_from) (hd := [53, 69, 94, 256]) 400 _ _ _ _ _ _ ?_
              simp only [wp, stp, List.mem_cons, List.not_mem_nil, Nat.reduceEqDiff, or_false, or_self, false_or, or_true, true_or, Nat.reduceAdd, ↓reduceIte, List.getElem?_cons_zero, List.getElem?_cons_succ, nthV, List.set_cons_zero, List.set_cons_succ, noL, popA, catS, Value.category, List.length_cons, List.length_nil, Nat.reduceLT, Nat.reduceLeDiff, true_and, and_true, one0, zer1, imp_t, imp_f, ofN_nI, sdead, f20, f21, not_true_eq_false, upC_ap, retC, fitC, isRefT, Option.toList_some, Option.toList_none, List.cons_append, List.nil_append, Nat.lt_add_one, Nat.zero_lt_succ, Nat.le_refl, Nat.add_zero, Nat.zero_add, Nat.one_ne_zero, Nat.zero_ne_one, Nat.lt_irrefl, List.length_set, fa_X7_from, hi, hd, hQ, mr_X7_from, m0, m3, mp, mx, my', mc, c1, mk, e0, e1, uP, uQ, sv, cl2, bx_2, by_2, hrow2, pO, q1, q2, q3, q4, q5, q6, q7]
              try simp only [m1f]
              try simp (disch := omega) only [nI_leI, nI_ltI, nI_eq, nI_clamp, vin_nI, nI_1, fa_lit, nI_add, nI_rm3, nI_rm2, pk_rem, pk_mul, pk_sub, pk_div, nI_eM, nI_Me, nI_pM, nI_pMz, nI_pM0, M1_lt, M1_le, nI_ltM, nI_leM, i8_nI, true_and, and_true, false_implies, true_implies, not_false_eq_true, not_true_eq_false, ne_eq, implies_true, Nat.not_lt_zero, Nat.zero_le]
              try simp only [m1u]
              have hdn : ∀ v', dvs (cq i) 2 = some v' → False := fun v' h => by
                have h : (if _ then some _ else none) = some v' := h
                rw [if_neg hy] at h; cases h
              repeat' (with_reducible first | apply And.intro | intro)
              all_goals first
                | omega
                | contradiction
                | exact hsk _ _ _ _ _ (fun v' g1 _ _ => (hdn v' g1).elim)
                | (exfalso; omega)
          · by_cases hy : cq i / 10 < 9
            · obtain ⟨v, hv⟩ : ∃ v, v = cq i + 10 := ⟨_, rfl⟩
              have hv1 : v < 100 := by omega
              have hdv : dvs (cq i) 3 = some v := by show (if _ then _ else _) = _; rw [if_pos hy, hv]
              have haj : aj4 (cq i) v := by unfold aj4; omega
              have ev : 10 * (cq i / 10 + 1) + (cq i - cq i / 10 * 10 + 0) = v := by omega
              refine wp_sound (by rw [hi]; exact ok_X7_from) (hd := [53, 69, 94, 256]) 400 _ _ _ _ _ _ ?_
              simp only [wp, stp, List.mem_cons, List.not_mem_nil, Nat.reduceEqDiff, or_false, or_self, false_or, or_true, true_or, Nat.reduceAdd, ↓reduceIte, List.getElem?_cons_zero, List.getElem?_cons_succ, nthV, List.set_cons_zero, List.set_cons_succ, noL, popA, catS, Value.category, List.length_cons, List.length_nil, Nat.reduceLT, Nat.reduceLeDiff, true_and, and_true, one0, zer1, imp_t, imp_f, ofN_nI, sdead, f20, f21, not_true_eq_false, upC_ap, retC, fitC, isRefT, Option.toList_some, Option.toList_none, List.cons_append, List.nil_append, Nat.lt_add_one, Nat.zero_lt_succ, Nat.le_refl, Nat.add_zero, Nat.zero_add, Nat.one_ne_zero, Nat.zero_ne_one, Nat.lt_irrefl, List.length_set, fa_X7_from, hi, hd, hQ, mr_X7_from, m0, m3, mp, mx, my', mc, c1, mk, e0, e1, uP, uQ, sv, cl3, bx_3, by_3, hrow2, pO, q1, q2, q3, q4, q5, q6, q7]
              try simp only [m1f]
              try simp (disch := omega) only [nI_leI, nI_ltI, nI_eq, nI_clamp, vin_nI, nI_1, fa_lit, nI_add, nI_rm3, nI_rm2, pk_rem, pk_mul, pk_sub, pk_div, nI_eM, nI_Me, nI_pM, nI_pMz, nI_pM0, M1_lt, M1_le, nI_ltM, nI_leM, i8_nI, true_and, and_true, false_implies, true_implies, not_false_eq_true, not_true_eq_false, ne_eq, implies_true, Nat.not_lt_zero, Nat.zero_le]
              try simp only [m1u]
              simp only [ev, c2' v hv1]
              repeat' (with_reducible first | apply And.intro | intro)
              all_goals first
                | omega
                | contradiction
                | (refine hsk _ _ _ _ _ (fun v' g1 g2 g3 => ?_)
                   rw [hdv] at g1; cases g1
                   first
                     | assumption
                     | exact fun e => absurd (hBI.sideV hik hdv g2 g3 haj e).2 (by omega)
                     | (obtain ⟨⟨g4, g5, g6⟩, g7⟩ := g3
                        first
                          | (exfalso; omega)
                          | (exfalso; rcases g7 with g7 | g7 <;> first | contradiction | exact absurd g7.1 (by assumption) | exact absurd rfl g7.2 | simp_all)))
                | (refine hvi v _ _ _ _ _ hdv hv1 ⟨⟨hv1, by omega, by omega⟩, ?_⟩ haj (by assumption)
                   first | exact Or.inl (by assumption) | exact Or.inr ⟨by assumption, by decide⟩)
            · refine wp_sound (by rw [hi]; exact ok_X7_from) (hd := [53, 69, 94, 256]) 400 _ _ _ _ _ _ ?_
              simp only [wp, stp, List.mem_cons, List.not_mem_nil, Nat.reduceEqDiff, or_false, or_self, false_or, or_true, true_or, Nat.reduceAdd, ↓reduceIte, List.getElem?_cons_zero, List.getElem?_cons_succ, nthV, List.set_cons_zero, List.set_cons_succ, noL, popA, catS, Value.category, List.length_cons, List.length_nil, Nat.reduceLT, Nat.reduceLeDiff, true_and, and_true, one0, zer1, imp_t, imp_f, ofN_nI, sdead, f20, f21, not_true_eq_false, upC_ap, retC, fitC, isRefT, Option.toList_some, Option.toList_none, List.cons_append, List.nil_append, Nat.lt_add_one, Nat.zero_lt_succ, Nat.le_refl, Nat.add_zero, Nat.zero_add, Nat.one_ne_zero, Nat.zero_ne_one, Nat.lt_irrefl, List.length_set, fa_X7_from, hi, hd, hQ, mr_X7_from, m0, m3, mp, mx, my', mc, c1, mk, e0, e1, uP, uQ, sv, cl3, bx_3, by_3, hrow2, pO, q1, q2, q3, q4, q5, q6, q7]
              try simp only [m1f]
              try simp (disch := omega) only [nI_leI, nI_ltI, nI_eq, nI_clamp, vin_nI, nI_1, fa_lit, nI_add, nI_rm3, nI_rm2, pk_rem, pk_mul, pk_sub, pk_div, nI_eM, nI_Me, nI_pM, nI_pMz, nI_pM0, M1_lt, M1_le, nI_ltM, nI_leM, i8_nI, true_and, and_true, false_implies, true_implies, not_false_eq_true, not_true_eq_false, ne_eq, implies_true, Nat.not_lt_zero, Nat.zero_le]
              try simp only [m1u]
              have hdn : ∀ v', dvs (cq i) 3 = some v' → False := fun v' h => by
                have h : (if _ then some _ else none) = some v' := h
                rw [if_neg hy] at h; cases h
              repeat' (with_reducible first | apply And.intro | intro)
              all_goals first
                | omega
                | contradiction
                | exact hsk _ _ _ _ _ (fun v' g1 _ _ => (hdn v' g1).elim)
                | (exfalso; omega)
      refine wp_sound (by rw [hi]; exact ok_X7_from) (hd := [53, 69, 94]) 400 _ _ _ _ _ _ ?_
      simp only [wp, stp, List.mem_cons, List.not_mem_nil, Nat.reduceEqDiff, or_false, or_self, false_or, or_true, true_or, Nat.reduceAdd, ↓reduceIte, List.getElem?_cons_zero, List.getElem?_cons_succ, nthV, List.set_cons_zero, List.set_cons_succ, noL, popA, catS, Value.category, List.length_cons, List.length_nil, Nat.reduceLT, Nat.reduceLeDiff, true_and, and_true, one0, zer1, imp_t, imp_f, ofN_nI, sdead, f20, f21, not_true_eq_false, upC_ap, retC, fitC, isRefT, Option.toList_some, Option.toList_none, List.cons_append, List.nil_append, Nat.lt_add_one, Nat.zero_lt_succ, Nat.le_refl, Nat.add_zero, Nat.zero_add, Nat.one_ne_zero, Nat.zero_ne_one, Nat.lt_irrefl, List.length_set, fa_X7_from, hi, hd, hQ, mr_X7_from, m0, m3, mp]
      try simp only [m1f]
      try simp (disch := omega) only [nI_leI, nI_ltI, nI_eq, nI_clamp, vin_nI, nI_1, fa_lit, nI_add, nI_rm3, nI_rm2, pk_rem, pk_mul, pk_sub, pk_div, nI_eM, nI_Me, nI_pM, nI_pMz, nI_pM0, M1_lt, M1_le, nI_ltM, nI_leM, i8_nI, true_and, and_true, false_implies, true_implies, not_false_eq_true, not_true_eq_false, ne_eq, implies_true, Nat.not_lt_zero, Nat.zero_le]
      try simp only [m1u]
      refine ⟨fun h => fin r q (fun j hj => ?_), fun h => ?_⟩
      · have e : i = kn := by omega
        subst e
        exact hBI.done hj
      · rw [hq i (by omega)]
        refine ⟨fun h2 => absurd h2 (by omega), fun _ => ⟨by omega, ?_⟩⟩
        exact inner 4 0 r q cq lv kn _ _ _ _ _ rfl (hBI.cong (fun v hv => by obtain ⟨t, h1, -⟩ := hv; omega)) (by omega) hq ho
  refine wp_sound (by rw [hi]; exact ok_X7_from) (hd := [53, 69, 94]) 400 _ _ _ _ _ _ ?_
  simp only [wp, stp, List.mem_cons, List.not_mem_nil, Nat.reduceEqDiff, or_false, or_self, false_or, or_true, true_or, Nat.reduceAdd, ↓reduceIte, List.getElem?_cons_zero, List.getElem?_cons_succ, nthV, List.set_cons_zero, List.set_cons_succ, noL, popA, catS, Value.category, List.length_cons, List.length_nil, Nat.reduceLT, Nat.reduceLeDiff, true_and, and_true, one0, zer1, imp_t, imp_f, ofN_nI, sdead, f20, f21, not_true_eq_false, upC_ap, retC, fitC, isRefT, Option.toList_some, Option.toList_none, List.cons_append, List.nil_append, Nat.lt_add_one, Nat.zero_lt_succ, Nat.le_refl, Nat.add_zero, Nat.zero_add, Nat.one_ne_zero, Nat.zero_ne_one, Nat.lt_irrefl, List.length_set, fa_X7_from, hi, hd, hQ, mr_X7_from, w1, w2, w3, w4, p3]
  try simp only [m1f]
  try simp (disch := omega) only [nI_leI, nI_ltI, nI_eq, nI_clamp, vin_nI, nI_1, fa_lit, nI_add, nI_rm3, nI_rm2, pk_rem, pk_mul, pk_sub, pk_div, nI_eM, nI_Me, nI_pM, nI_pMz, nI_pM0, M1_lt, M1_le, nI_ltM, nI_leM, i8_nI, true_and, and_true, false_implies, true_implies, not_false_eq_true, not_true_eq_false, ne_eq, implies_true, Nat.not_lt_zero, Nat.zero_le]
  try simp only [m1u]
  refine ⟨ha, fun hs => ⟨ha, hd1, _, t_fillB hG (r := p) (N := 100) (g := r0) pO (by rw [upC_ne _ _ (by omega)]; exact p3) (by omega) (-1), ?_⟩, fun hs => hpost f r0 (p4 hs hop) p3 hW ⟨fun _ _ _ => rfl, fun _ _ _ _ => rfl, fun _ _ => rfl⟩⟩
  rintro v n' z' f' ⟨rfl, rfl, rfl, h, rfl, hh⟩
  refine wp_sound (by rw [hi]; exact ok_X7_from) (hd := [53, 69, 94]) 400 _ _ _ _ _ _ ?_
  simp only [wp, stp, List.mem_cons, List.not_mem_nil, Nat.reduceEqDiff, or_false, or_self, false_or, or_true, true_or, Nat.reduceAdd, ↓reduceIte, List.getElem?_cons_zero, List.getElem?_cons_succ, nthV, List.set_cons_zero, List.set_cons_succ, noL, popA, catS, Value.category, List.length_cons, List.length_nil, Nat.reduceLT, Nat.reduceLeDiff, true_and, and_true, one0, zer1, imp_t, imp_f, ofN_nI, sdead, f20, f21, not_true_eq_false, upC_ap, retC, fitC, isRefT, Option.toList_some, Option.toList_none, List.cons_append, List.nil_append, Nat.lt_add_one, Nat.zero_lt_succ, Nat.le_refl, Nat.add_zero, Nat.zero_add, Nat.one_ne_zero, Nat.zero_ne_one, Nat.lt_irrefl, List.length_set, fa_X7_from, hi, hd, hQ, mr_X7_from, w1, w2, w3, w4, p3, q1, q2, q3, q4, q5, q6, pO]
  try simp only [m1f]
  try simp (disch := omega) only [nI_leI, nI_ltI, nI_eq, nI_clamp, vin_nI, nI_1, fa_lit, nI_add, nI_rm3, nI_rm2, pk_rem, pk_mul, pk_sub, pk_div, nI_eM, nI_Me, nI_pM, nI_pMz, nI_pM0, M1_lt, M1_le, nI_ltM, nI_leM, i8_nI, true_and, and_true, false_implies, true_implies, not_false_eq_true, not_true_eq_false, ne_eq, implies_true, Nat.not_lt_zero, Nat.zero_le]
  try simp only [m1u]
  refine ⟨ha, ?_⟩
  have hm : upC (upC (upC (upC f 18 (cI 100 (upd sg a (nI k)))) p (cB 100 h)) p (cB 100 (upd h a 0))) 19 (cI 100 (upd qq 0 (nI a))) = Mm (upd h a 0) (upd qq 0 (nI a)) := by rw [hMm, upC_upC]
  have key := outer 100 0 (upd h a 0) (upd qq 0 (nI a)) (fun _ => a) (fun _ => 0) 1 u5 u6 u7 u8 u9 u10 u11 rfl (BI.start ha (by simp [upd]; rfl) (fun c hc hne => by rw [upd, if_neg hne]; exact hh c hc)) (fun j hj => by rw [upd, if_pos (by omega)]) (fun _ _ => hop)
  rw [← hm] at key
  exact ⟨by omega, key⟩
end From
