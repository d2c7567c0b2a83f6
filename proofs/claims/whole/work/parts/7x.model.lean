-- the reference: a placing judged
set_option maxRecDepth 100000
set_option maxHeartbeats 4000000
noncomputable def jdM (S : Sta) (L : Lw) (m : Nat) (pl : Nat → Nat) (an : Nat → Int32) : Nat → Int32 := jdA S L an (pl 0) (if 1 < m then some (pl 1) else none) (if 2 < m then some (pl 2) else none)
/-- the answers so far, in the reference -/
def AnR (m : Nat) (an I : Nat → Int32) (A : Nat → Nat → Int32) (b : Nat) : Prop := (I 33 = an 0 ∧ I 34 = an 10 ∧ I 35 = an 20) ∧ (∃ cnt, cnt ≤ b ∧ an 0 = nI cnt) ∧ ((¬ an 0 = 0 → ∀ i, i < m → A 46 i = an (1 + i)) ∧ (an 0 = 0 → ∀ i, i < m → an (1 + i) = -1)) ∧ (¬ an 20 = -1 → (∀ i, i < m → A 47 i = an (11 + i)) ∧ ∀ i, i < m → A 48 i = an (21 + i)) ∧ (an 10 = -1 ↔ an 20 = -1)
section Mxs
variable {G : Gam} {d n z m : Nat} {f f0 : Mf} {I W : Nat → Int32} {A : Nat → Nat → Int32} {s : Sc} {S : Sta} {L : Lw} {pl : Nat → Nat}
theorem pa_1 (c : Nat) : paN S L 1 1 pl 0 c = ppN S L c none none := by
  unfold paN ppN
  have e1 : mnF (fun o => if o = 0 then 99 else dN S 1 c (pl o)) 1 = min (dO S c none) (dO S c none) := rfl
  have e2 : cnt1 (fun o => ¬ o = 0 ∧ dN S 1 c (pl o) ≤ 1) 1 = nO S c none + nO S c none := rfl
  rw [e1, e2]
theorem pa_20 (c : Nat) : paN S L 1 2 pl 0 c = ppN S L c (some (pl 1)) none := by
  have d1 := dN_le S 1 c (pl 1)
  unfold paN ppN
  have e1 : mnF (fun o => if o = 0 then 99 else dN S 1 c (pl o)) 2 = min (dO S c (some (pl 1))) (dO S c none) := by
    rw [mnF_s, mnF_s]
    show min (min 99 99) (dN S 1 c (pl 1)) = min (dN S 1 c (pl 1)) 99
    omega
  have e2 : cnt1 (fun o => ¬ o = 0 ∧ dN S 1 c (pl o) ≤ 1) 2 = nO S c (some (pl 1)) + nO S c none := by
    simp [cnt1, nO]
  rw [e1, e2]
theorem pa_21 (c : Nat) : paN S L 1 2 pl 1 c = ppN S L c (some (pl 0)) none := by
  have d1 := dN_le S 1 c (pl 0)
  unfold paN ppN
  have e1 : mnF (fun o => if o = 1 then 99 else dN S 1 c (pl o)) 2 = min (dO S c (some (pl 0))) (dO S c none) := by
    rw [mnF_s, mnF_s]
    show min (min 99 (dN S 1 c (pl 0))) 99 = min (dN S 1 c (pl 0)) 99
    omega
  have e2 : cnt1 (fun o => ¬ o = 1 ∧ dN S 1 c (pl o) ≤ 1) 2 = nO S c (some (pl 0)) + nO S c none := by
    simp [cnt1, nO]
  rw [e1, e2]
theorem pa_30 (c : Nat) : paN S L 1 3 pl 0 c = ppN S L c (some (pl 1)) (some (pl 2)) := by
  have d1 := dN_le S 1 c (pl 1)
  unfold paN ppN
  have e1 : mnF (fun o => if o = 0 then 99 else dN S 1 c (pl o)) 3 = min (dO S c (some (pl 1))) (dO S c (some (pl 2))) := by
    rw [mnF_s, mnF_s, mnF_s]
    show min (min (min 99 99) (dN S 1 c (pl 1))) (dN S 1 c (pl 2)) = min (dN S 1 c (pl 1)) (dN S 1 c (pl 2))
    omega
  have e2 : cnt1 (fun o => ¬ o = 0 ∧ dN S 1 c (pl o) ≤ 1) 3 = nO S c (some (pl 1)) + nO S c (some (pl 2)) := by
    simp [cnt1, nO]
  rw [e1, e2]
theorem pa_31 (c : Nat) : paN S L 1 3 pl 1 c = ppN S L c (some (pl 0)) (some (pl 2)) := by
  have d1 := dN_le S 1 c (pl 0)
  unfold paN ppN
  have e1 : mnF (fun o => if o = 1 then 99 else dN S 1 c (pl o)) 3 = min (dO S c (some (pl 0))) (dO S c (some (pl 2))) := by
    rw [mnF_s, mnF_s, mnF_s]
    show min (min (min 99 (dN S 1 c (pl 0))) 99) (dN S 1 c (pl 2)) = min (dN S 1 c (pl 0)) (dN S 1 c (pl 2))
    omega
  have e2 : cnt1 (fun o => ¬ o = 1 ∧ dN S 1 c (pl o) ≤ 1) 3 = nO S c (some (pl 0)) + nO S c (some (pl 2)) := by
    simp [cnt1, nO]
  rw [e1, e2]
theorem pa_32 (c : Nat) : paN S L 1 3 pl 2 c = ppN S L c (some (pl 0)) (some (pl 1)) := by
  have d1 := dN_le S 1 c (pl 0)
  have d2 := dN_le S 1 c (pl 1)
  unfold paN ppN
  have e1 : mnF (fun o => if o = 2 then 99 else dN S 1 c (pl o)) 3 = min (dO S c (some (pl 0))) (dO S c (some (pl 1))) := by
    rw [mnF_s, mnF_s, mnF_s]
    show min (min (min 99 (dN S 1 c (pl 0))) (dN S 1 c (pl 1))) 99 = min (dN S 1 c (pl 0)) (dN S 1 c (pl 1))
    omega
  have e2 : cnt1 (fun o => ¬ o = 2 ∧ dN S 1 c (pl o) ≤ 1) 3 = nO S c (some (pl 0)) + nO S c (some (pl 1)) := by
    simp [cnt1, nO]
  rw [e1, e2]
theorem at_rs {i : Nat} {x y : Option Nat} (hpa : ∀ c, paN S L 1 m pl i c = ppN S L c x y) (hxy : ∀ c, (∀ o, o < m → ¬ pl o = c) ↔ (¬ some c = x ∧ ¬ some c = y ∧ ¬ c = pl i)) : atN S L 1 m pl i ↔ rs1 S L (pl i) x y := by
  unfold atN rs1
  constructor
  · intro h c hg hx hy
    by_cases q : c = pl i
    · rw [q]; omega
    · have := h c hg ((hxy c).mpr ⟨hx, hy, q⟩)
      rw [hpa, hpa] at this
      exact this
  · intro h c hg hc
    obtain ⟨a, b, -⟩ := (hxy c).mp hc
    rw [hpa, hpa]
    exact h c hg a b
theorem at_all (hm : m = 1 ∨ m = 2 ∨ m = 3) : (∀ i, i < m → atN S L 1 m pl i) ↔ rsP S L (pl 0) (if 1 < m then some (pl 1) else none) (if 2 < m then some (pl 2) else none) := by
  unfold rsP
  rcases hm with rfl | rfl | rfl
  · simp only [show ¬ 1 < 1 by omega, show ¬ 2 < 1 by omega, if_false]
    have h0 := at_rs (S := S) (L := L) (m := 1) (i := 0) pa_1 (pl := pl) (fun c => ⟨fun h => ⟨by simp, by simp, fun e => h 0 (by omega) e.symm⟩, fun h o ho => by rw [show o = 0 by omega]; exact fun e => h.2.2 e.symm⟩)
    exact ⟨fun h => ⟨h0.mp (h 0 (by omega)), fun q e => (by cases e), fun q e => (by cases e)⟩, fun h i hi => by rw [show i = 0 by omega]; exact h0.mpr h.1⟩
  · simp only [show 1 < 2 by omega, show ¬ 2 < 2 by omega, if_true, if_false]
    have h0 := at_rs (S := S) (L := L) (m := 2) (i := 0) pa_20 (pl := pl) (fun c => ⟨fun h => ⟨fun e => h 1 (by omega) (by cases e; rfl), by simp, fun e => h 0 (by omega) e.symm⟩, fun h o ho e => by
      rcases (by omega : o = 0 ∨ o = 1) with r | r <;> subst r
      · exact h.2.2 e.symm
      · exact h.1 (by rw [e])⟩)
    have h1 := at_rs (S := S) (L := L) (m := 2) (i := 1) pa_21 (pl := pl) (fun c => ⟨fun h => ⟨fun e => h 0 (by omega) (by cases e; rfl), by simp, fun e => h 1 (by omega) e.symm⟩, fun h o ho e => by
      rcases (by omega : o = 0 ∨ o = 1) with r | r <;> subst r
      · exact h.1 (by rw [e])
      · exact h.2.2 e.symm⟩)
    exact ⟨fun h => ⟨h0.mp (h 0 (by omega)), fun q e => by cases e; exact h1.mp (h 1 (by omega)), fun q e => by cases e⟩, fun h i hi => by
      rcases (by omega : i = 0 ∨ i = 1) with r | r <;> subst r
      · exact h0.mpr h.1
      · exact h1.mpr (h.2.1 _ rfl)⟩
  · simp only [show 1 < 3 by omega, show 2 < 3 by omega, if_true]
    have h0 := at_rs (S := S) (L := L) (m := 3) (i := 0) pa_30 (pl := pl) (fun c => ⟨fun h => ⟨fun e => h 1 (by omega) (by cases e; rfl), fun e => h 2 (by omega) (by cases e; rfl), fun e => h 0 (by omega) e.symm⟩, fun h o ho e => by
      rcases (by omega : o = 0 ∨ o = 1 ∨ o = 2) with r | r | r <;> subst r
      · exact h.2.2 e.symm
      · exact h.1 (by rw [e])
      · exact h.2.1 (by rw [e])⟩)
    have h1 := at_rs (S := S) (L := L) (m := 3) (i := 1) pa_31 (pl := pl) (fun c => ⟨fun h => ⟨fun e => h 0 (by omega) (by cases e; rfl), fun e => h 2 (by omega) (by cases e; rfl), fun e => h 1 (by omega) e.symm⟩, fun h o ho e => by
      rcases (by omega : o = 0 ∨ o = 1 ∨ o = 2) with r | r | r <;> subst r
      · exact h.1 (by rw [e])
      · exact h.2.2 e.symm
      · exact h.2.1 (by rw [e])⟩)
    have h2 := at_rs (S := S) (L := L) (m := 3) (i := 2) pa_32 (pl := pl) (fun c => ⟨fun h => ⟨fun e => h 0 (by omega) (by cases e; rfl), fun e => h 1 (by omega) (by cases e; rfl), fun e => h 2 (by omega) e.symm⟩, fun h o ho e => by
      rcases (by omega : o = 0 ∨ o = 1 ∨ o = 2) with r | r | r <;> subst r
      · exact h.1 (by rw [e])
      · exact h.2.1 (by rw [e])
      · exact h.2.2 e.symm⟩)
    exact ⟨fun h => ⟨h0.mp (h 0 (by omega)), fun q e => by cases e; exact h1.mp (h 1 (by omega)), fun q e => by cases e; exact h2.mp (h 2 (by omega))⟩, fun h i hi => by
      rcases (by omega : i = 0 ∨ i = 1 ∨ i = 2) with r | r | r <;> subst r
      · exact h0.mpr h.1
      · exact h1.mpr (h.2.1 _ rfl)
      · exact h2.mpr (h.2.2 _ rfl)⟩
theorem pa_sum (hm : m = 1 ∨ m = 2 ∨ m = 3) : smF (fun i => paN S L 1 m pl i (pl i)) m = sumP S L (pl 0) (if 1 < m then some (pl 1) else none) (if 2 < m then some (pl 2) else none) := by
  unfold sumP
  rcases hm with rfl | rfl | rfl
  · simp only [show ¬ 1 < 1 by omega, show ¬ 2 < 1 by omega, if_false]
    show 0 + paN S L 1 1 pl 0 (pl 0) = _ + 0 + 0
    rw [pa_1]; omega
  · simp only [show 1 < 2 by omega, show ¬ 2 < 2 by omega, if_true, if_false]
    show 0 + paN S L 1 2 pl 0 (pl 0) + paN S L 1 2 pl 1 (pl 1) = _ + ppN S L (pl 1) (some (pl 0)) none + 0
    rw [pa_20, pa_21]; omega
  · simp only [show 1 < 3 by omega, show 2 < 3 by omega, if_true]
    show 0 + paN S L 1 3 pl 0 (pl 0) + paN S L 1 3 pl 1 (pl 1) + paN S L 1 3 pl 2 (pl 2) = _ + ppN S L (pl 1) (some (pl 0)) (some (pl 2)) + ppN S L (pl 2) (some (pl 0)) (some (pl 1))
    rw [pa_30, pa_31, pa_32]; omega
theorem AnR.mono {an : Nat → Int32} {b b' : Nat} (h : AnR m an I A b) (hb : b ≤ b') : AnR m an I A b' := by
  obtain ⟨h1, ⟨cnt, h2, h3⟩, h4⟩ := h
  exact ⟨h1, ⟨cnt, by omega, h3⟩, h4⟩
/-- the answers after a placing -/
theorem AnR.jd {an : Nat → Int32} {b sm : Nat} {I' : Nat → Int32} {A' : Nat → Nat → Int32} (hm : m = 1 ∨ m = 2 ∨ m = 3) (h : AnR m an I A b) (hb : b < 2000000) (hsm : sm = sumP S L (pl 0) (if 1 < m then some (pl 1) else none) (if 2 < m then some (pl 2) else none)) (hs9 : sm < 1000000)
    {fl : Int32} (hfl : (fl = 1 ∧ rsP S L (pl 0) (if 1 < m then some (pl 1) else none) (if 2 < m then some (pl 2) else none)) ∨ (fl = 0 ∧ ¬ rsP S L (pl 0) (if 1 < m then some (pl 1) else none) (if 2 < m then some (pl 2) else none)))
    (hA6 : ∀ i, i < m → A' 46 i = if fl = 1 ∧ I 33 = 0 then nI (pl i) else A 46 i) (hA7 : ∀ i, i < m → A' 47 i = if I 34 = -1 ∨ nI sm < I 34 then nI (pl i) else A 47 i) (hA8 : ∀ i, i < m → A' 48 i = if I 35 = -1 ∨ I 35 < nI sm then nI (pl i) else A 48 i)
    (hI3 : I' 33 = I 33 + fl) (hI4 : I' 34 = if I 34 = -1 ∨ nI sm < I 34 then nI sm else I 34) (hI5 : I' 35 = if I 35 < nI sm then nI sm else I 35) : AnR m (jdM S L m pl an) I' A' (b + 1) := by
  obtain ⟨⟨e0, e10, e20⟩, ⟨cnt, hc, ec⟩, ⟨h46, h46'⟩, h478, h1020⟩ := h
  obtain ⟨q, hq⟩ : ∃ q, q = (if 1 < m then some (pl 1) else none) := ⟨_, rfl⟩
  obtain ⟨r, hr⟩ : ∃ r, r = (if 2 < m then some (pl 2) else none) := ⟨_, rfl⟩
  have hrow : ∀ i, i < m → (i = 0 → nI (pl 0) = nI (pl i)) ∧ (i = 1 → eO q = nI (pl i)) ∧ (i = 2 → eO r = nI (pl i)) := fun i hi => ⟨fun e => by rw [e], fun e => by rw [hq, if_pos (by omega), e]; rfl, fun e => by rw [hr, if_pos (by omega), e]; rfl⟩
  rw [e10] at hA7 hI4
  rw [e20] at hA8 hI5
  rw [e0] at hA6 hI3
  rw [← hq, ← hr] at hsm hfl
  have m1 : ∀ x : Nat, x < 1000000 → ¬ nI x = -1 := fun x hx z => (nI_em (by omega)).mp z
  have hm20 : (-1 : Int32) < nI sm := by
    rw [Int32.lt_iff_toInt_lt, nI_toInt (by omega)]; show (-1 : Int) < _; omega
  have p20 : (an 20 = -1 ∨ an 20 < nI sm) ↔ an 20 < nI sm := ⟨fun z => z.elim (fun z => by rw [z]; exact hm20) id, Or.inr⟩
  simp only [p20] at hA8
  -- the three updates
  obtain ⟨a1, ha1⟩ : ∃ a1, a1 = jd1 an (nI (pl 0)) (eO q) (eO r) (nI sm) := ⟨_, rfl⟩
  obtain ⟨a2, ha2⟩ : ∃ a2, a2 = jd2 a1 (nI (pl 0)) (eO q) (eO r) (nI sm) := ⟨_, rfl⟩
  have nt : ∀ (a : Nat → Int32) k r0 r1 r2 j, ntR a k r0 r1 r2 j = if j = k + 3 then r2 else if j = k + 2 then r1 else if j = k + 1 then r0 else a j := fun a k r0 r1 r2 j => by
    unfold ntR; rw [upd_ap, upd_ap, upd_ap]
  have a1o : ∀ j, ¬ (10 ≤ j ∧ j ≤ 13) → a1 j = an j := fun j hj => by
    rw [ha1]; unfold jd1; split
    · rw [nt, if_neg (by omega), if_neg (by omega), if_neg (by omega), upd_ap, if_neg (by omega)]
    · rfl
  have a2o : ∀ j, ¬ (20 ≤ j ∧ j ≤ 23) → a2 j = a1 j := fun j hj => by
    rw [ha2]; unfold jd2; split
    · rw [nt, if_neg (by omega), if_neg (by omega), if_neg (by omega), upd_ap, if_neg (by omega)]
    · rfl
  have a10 : a2 10 = I' 34 := by
    rw [a2o 10 (by omega), hI4, ha1]
    unfold jd1
    by_cases z : an 10 = -1 ∨ nI sm < an 10
    · rw [if_pos z, if_pos z, nt]; rfl
    · rw [if_neg z, if_neg z]
  have a11 : ¬ an 20 = -1 ∨ an 10 = -1 → ∀ i, i < m → A' 47 i = a2 (11 + i) := fun hne i hi => by
    rw [a2o _ (by omega), hA7 i hi, ha1]
    unfold jd1
    by_cases z : an 10 = -1 ∨ nI sm < an 10
    · rw [if_pos z, if_pos z, nt]
      obtain ⟨x0, x1, x2⟩ := hrow i hi
      rcases (by omega : i = 0 ∨ i = 1 ∨ i = 2) with w | w | w
      · rw [if_neg (by omega), if_neg (by omega), if_pos (by omega), x0 w]
      · rw [if_neg (by omega), if_pos (by omega), x1 w]
      · rw [if_pos (by omega), x2 w]
    · rw [if_neg z, if_neg z]
      exact (h478 (fun y => z (Or.inl (h1020.mpr y)))).1 i hi
  have a20 : a2 20 = I' 35 := by
    rw [hI5, ha2]
    unfold jd2
    rw [a1o 20 (by omega)]
    by_cases z : an 20 < nI sm
    · rw [if_pos z, if_pos z, nt]; rfl
    · rw [if_neg z, if_neg z]; exact a1o 20 (by omega)
  have a21 : ∀ i, i < m → A' 48 i = a2 (21 + i) := fun i hi => by
    rw [hA8 i hi, ha2]
    unfold jd2
    rw [a1o 20 (by omega)]
    by_cases z : an 20 < nI sm
    · rw [if_pos z, if_pos z, nt]
      obtain ⟨x0, x1, x2⟩ := hrow i hi
      rcases (by omega : i = 0 ∨ i = 1 ∨ i = 2) with w | w | w
      · rw [if_neg (by omega), if_neg (by omega), if_pos (by omega), x0 w]
      · rw [if_neg (by omega), if_pos (by omega), x1 w]
      · rw [if_pos (by omega), x2 w]
    · rw [if_neg z, if_neg z, a1o _ (by omega)]
      exact (h478 (fun y => z (by rw [y]; exact hm20))).2 i hi
  have hne20 : ¬ a2 20 = -1 := by
    rw [a20, hI5]
    by_cases z : an 20 < nI sm
    · rw [if_pos z]; exact m1 sm hs9
    · rw [if_neg z]; exact fun y => z (by rw [y]; exact hm20)
  have hne10 : ¬ a2 10 = -1 := by
    rw [a10, hI4]
    by_cases z : an 10 = -1 ∨ nI sm < an 10
    · rw [if_pos z]; exact m1 sm hs9
    · rw [if_neg z]; exact fun y => z (Or.inl y)
  have r47 : ∀ i, i < m → A' 47 i = a2 (11 + i) := fun i hi => a11 (by
    by_cases y : an 20 = -1
    · exact Or.inr (h1020.mpr y)
    · exact Or.inl y) i hi
  have a00 : a2 0 = an 0 := by rw [a2o 0 (by omega), a1o 0 (by omega)]
  have a0i : ∀ i, i < m → a2 (1 + i) = an (1 + i) := fun i hi => by rw [a2o _ (by omega), a1o _ (by omega)]
  have ez : an 0 = 0 ↔ cnt = 0 := by rw [ec]; exact nI_eq (b := 0) (by omega) (by omega)
  rcases hfl with ⟨rfl, hrs⟩ | ⟨rfl, hrs⟩
  · have ej : jdM S L m pl an = jd3 a2 (nI (pl 0)) (eO q) (eO r) := by
      unfold jdM jdA
      rw [← hq, ← hr, if_pos hrs, ← hsm, ← ha1, ← ha2]
    rw [ej]
    have b0 : jd3 a2 (nI (pl 0)) (eO q) (eO r) 0 = an 0 + 1 := by
      unfold jd3; split
      · rw [upd_ap, if_pos rfl, a00]
      · rw [upd_ap, if_pos rfl, a00]
    have bo : ∀ j, ¬ j ≤ 3 → jd3 a2 (nI (pl 0)) (eO q) (eO r) j = a2 j := fun j hj => by
      unfold jd3; split
      · rw [upd_ap, if_neg (by omega), nt, if_neg (by omega), if_neg (by omega), if_neg (by omega)]
      · rw [upd_ap, if_neg (by omega)]
    have enx : an 0 + 1 = nI (cnt + 1) := by rw [ec, nI_1]
    have hne : ¬ an 0 + 1 = 0 := by rw [enx]; exact fun y => by have := (nI_eq (b := 0) (by omega) (by omega)).mp y; omega
    refine ⟨⟨by rw [b0, hI3], by rw [bo 10 (by omega), a10], by rw [bo 20 (by omega), a20]⟩, ⟨cnt + 1, by omega, by rw [b0, enx]⟩, ⟨fun _ i hi => ?_, fun y => absurd (b0 ▸ y) hne⟩, fun _ => ⟨fun i hi => by rw [bo _ (by omega)]; exact r47 i hi, fun i hi => by rw [bo _ (by omega)]; exact a21 i hi⟩, by rw [bo 10 (by omega), bo 20 (by omega)]; exact ⟨fun y => absurd y hne10, fun y => absurd y hne20⟩⟩
    rw [hA6 i hi]
    unfold jd3
    rw [a00]
    by_cases z : an 0 = 0
    · rw [if_pos ⟨rfl, z⟩, if_pos z, upd_ap, if_neg (by omega), nt]
      obtain ⟨x0, x1, x2⟩ := hrow i hi
      rcases (by omega : i = 0 ∨ i = 1 ∨ i = 2) with w | w | w
      · rw [if_neg (by omega), if_neg (by omega), if_pos (by omega), x0 w]
      · rw [if_neg (by omega), if_pos (by omega), x1 w]
      · rw [if_pos (by omega), x2 w]
    · rw [if_neg (fun y => z y.2), if_neg z, upd_ap, if_neg (by omega), a0i i hi]; exact h46 z i hi
  · have ej : jdM S L m pl an = a2 := by
      unfold jdM jdA
      rw [← hq, ← hr, if_neg hrs, ← hsm, ← ha1, ← ha2]
    rw [ej]
    have z01 : ¬ ((0 : Int32) = 1 ∧ an 0 = 0) := fun y => absurd y.1 (by decide)
    refine ⟨⟨by rw [a00, hI3, Int32.add_zero], a10.symm, a20.symm⟩, ⟨cnt, by omega, by rw [a00, ec]⟩, ⟨fun y i hi => ?_, fun y i hi => ?_⟩, fun _ => ⟨r47, a21⟩, ⟨fun y => absurd y hne10, fun y => absurd y hne20⟩⟩
    · rw [hA6 i hi, if_neg z01, a0i i hi]; exact h46 (by rw [← a00]; exact y) i hi
    · rw [a0i i hi]; exact h46' (by rw [← a00]; exact y) i hi
end Mxs
