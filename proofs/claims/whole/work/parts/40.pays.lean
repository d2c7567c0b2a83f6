-- THE PAYS, in numbers
set_option maxRecDepth 100000
set_option maxHeartbeats 4000000
theorem nmod (a n : Nat) : a - a / n * n = a % n := by rw [Nat.mul_comm, ← Nat.mod_eq_sub_mul_div]
theorem wayS_in (S : Sta) (bs : Int32) (a c : Nat) : wayS S bs a c = -1 ∨ ∃ m, m < 100 ∧ wayS S bs a c = nI m := wayF_in _ _ _ _
noncomputable def dN (S : Sta) (bs : Int32) (a c : Nat) : Nat := if wayS S bs a c = -1 then 99 else (wayS S bs a c).toNatClampNeg
theorem dN_le (S : Sta) (bs : Int32) (a c : Nat) : dN S bs a c ≤ 99 := by
  rw [dN]
  rcases wayS_in S bs a c with h | ⟨m, h1, h2⟩
  · rw [if_pos h]; omega
  · rw [h2, if_neg (by rw [nI_em (by omega)]; exact id), nI_clamp (by omega)]; omega
/-- a yard of grass on the plain -/
abbrev gsN (S : Sta) (c : Nat) : Prop := (c < 100 ∧ c % 10 < wdt S ∧ c / 10 < hgt S) ∧ S 1 c = 0
theorem gsN.op {S : Sta} {c : Nat} (h : gsN S c) (bs : Int32) : opS S bs c := ⟨h.1, Or.inl h.2⟩
def mnF (F : Nat → Nat) : Nat → Nat
  | 0 => 99
  | k + 1 => min (mnF F k) (F k)
theorem mnF_le (F : Nat → Nat) : ∀ k, mnF F k ≤ 99
  | 0 => Nat.le_refl _
  | k + 1 => Nat.le_trans (Nat.min_le_left _ _) (mnF_le F k)
theorem mnF_cong {F F' : Nat → Nat} : ∀ {k : Nat}, (∀ o, o < k → F o = F' o) → mnF F k = mnF F' k
  | 0, _ => rfl
  | k + 1, h => by rw [mnF, mnF, mnF_cong (fun o ho => h o (by omega)), h k (by omega)]
theorem cnt1_cong {p q : Nat → Prop} [DecidablePred p] [DecidablePred q] : ∀ {k : Nat}, (∀ o, o < k → (p o ↔ q o)) → cnt1 p k = cnt1 q k
  | 0, _ => rfl
  | k + 1, h => by
    rw [cnt1, cnt1, cnt1_cong (fun o ho => h o (by omega))]
    by_cases hp : p k
    · rw [if_pos hp, if_pos ((h k (by omega)).mp hp)]
    · rw [if_neg hp, if_neg (fun z => hp ((h k (by omega)).mpr z))]
noncomputable def bdF (S : Sta) (bs : Int32) (t c o : Nat) : Nat := if o = t ∨ ybS S o = -1 ∨ kiS S t o then 99 else dN S bs c (ybS S o).toNatClampNeg
noncomputable def faA (S : Sta) (bs : Int32) (t c : Nat) : Nat := mnF (bdF S bs t c) (tn S + mn S + 1)
abbrev nrP (S : Sta) (bs : Int32) (t c o : Nat) : Prop := ¬ o = t ∧ ¬ ybS S o = -1 ∧ dN S bs c (ybS S o).toNatClampNeg ≤ 1
noncomputable def neA (S : Sta) (bs : Int32) (t c : Nat) : Nat := cnt1 (nrP S bs t c) (tn S + mn S + 1)
def knN (S : Sta) (t : Nat) : Nat := cnt1 (fun o => kiS S o t) (tn S)
noncomputable def fkF (S : Sta) (bs : Int32) (t o : Nat) : Nat := if kiS S o t then faA S bs o (S 2 o).toNatClampNeg else 99
noncomputable def fkN (S : Sta) (bs : Int32) (t : Nat) : Nat := mnF (fkF S bs t) (tn S)
def edN (S : Sta) (c : Nat) : Nat := ((if c % 10 = 0 then 1 else 0) + (if c % 10 + 1 = wdt S then 1 else 0)) + ((if c / 10 = 0 then 1 else 0) + (if c / 10 + 1 = hgt S then 1 else 0))
def wtN (S : Sta) (c : Nat) : Nat := (if 0 < c % 10 ∧ ¬ S 1 (c - 1) = 0 then 1 else 0) + (if c % 10 + 1 < wdt S ∧ ¬ S 1 (c + 1) = 0 then 1 else 0) + (if 0 < c / 10 ∧ ¬ S 1 (c - 10) = 0 then 1 else 0) + (if c / 10 + 1 < hgt S ∧ ¬ S 1 (c + 10) = 0 then 1 else 0)
def fcF (S : Sta) (c fa ne ki : Nat) : Nat → Int32 := fun j => match j with
  | 0 => nI fa | 1 => nI (edN S c) | 2 => nI (wtN S c) | 3 => nI ne | 4 => nI ki | 5 => nI (c % 10) | 6 => nI (c / 10) | _ => S 0 8
def cmN (a : Int32) : Nat := if a < 0 then 0 else if 9999 < a then 9999 else a.toNatClampNeg
/-- a law: how many lines, whether it asks for the evening, what it tells by the facts -/
abbrev Lw : Type := Int32 × Int32 × ((Nat → Int32) → Int32)
def payF (S : Sta) (L : Lw) (c fa ne ki : Nat) : Nat := cmN (L.2.2 (fcF S c fa ne ki)) / (ki + 1)
noncomputable def pyC (S : Sta) (L : Lw) (bs : Int32) (t c : Nat) : Nat := payF S L c (min (fkN S bs t) (faA S bs t c)) (neA S bs t c) (knN S t)
noncomputable def pyN (S : Sta) (L : Lw) (bs : Int32) (t : Nat) : Nat := pyC S L bs t (S 2 t).toNatClampNeg
theorem cmN_spec (a : Int32) : cmN a ≤ 9999 ∧ (if 0 < (if a < (9999 : Int32) then a else 9999) then (if a < (9999 : Int32) then a else 9999) else 0) = nI (cmN a) := by
  unfold cmN
  have h0 : (0 : Int32).toInt = 0 := rfl
  have h9 : (9999 : Int32).toInt = 9999 := rfl
  by_cases h1 : a < 0
  · rw [if_pos h1]
    refine ⟨by omega, ?_⟩
    rw [Int32.lt_iff_toInt_lt] at h1
    rw [if_pos (show a < (9999 : Int32) by rw [Int32.lt_iff_toInt_lt]; omega), if_neg (by rw [Int32.lt_iff_toInt_lt]; omega)]
    rfl
  · rw [if_neg h1]
    by_cases h2 : 9999 < a
    · rw [if_pos h2]
      refine ⟨by omega, ?_⟩
      rw [Int32.lt_iff_toInt_lt] at h2
      rw [if_neg (show ¬ a < (9999 : Int32) by rw [Int32.lt_iff_toInt_lt]; omega)]
      rfl
    · rw [if_neg h2]
      obtain ⟨j, hj, rfl⟩ := nI_of2 (M := 9999) (n := 9999) rfl h1 (by rw [Int32.lt_iff_toInt_lt] at h2; rw [Int32.le_iff_toInt_le]; omega)
      rw [nI_clamp (by omega)]
      refine ⟨hj, ?_⟩
      by_cases e : j < 9999
      · have e' : nI j < (9999 : Int32) := (nI_ltI (b := 9999) (by omega) (by omega)).mpr e
        rw [if_pos e']
        by_cases e0 : 0 < j
        · have e1 : (0 : Int32) < nI j := (nI_ltI (a := 0) (by omega) (by omega)).mpr e0
          rw [if_pos e1]
        · have : j = 0 := by omega
          subst this; rfl
      · have : j = 9999 := by omega
        subst this; rfl
theorem payF_le (S : Sta) (L : Lw) (c fa ne ki : Nat) : payF S L c fa ne ki ≤ 9999 := Nat.le_trans (Nat.div_le_self _ _) (cmN_spec _).1
theorem lawRun_cong {kd vl : Nat → Nat} {F F' : Nat → Int32} (h : ∀ j, j < 8 → F j = F' j) : ∀ n i pr su le pa tr, lawRun kd vl F n i pr su le pa tr = lawRun kd vl F' n i pr su le pa tr := by
  have hs : ∀ v, stV F v = stV F' v := fun v => by
    unfold stV
    by_cases e : 10000 ≤ v ∧ v < 10008
    · rw [if_pos e, if_pos e]; exact h _ (by omega)
    · rw [if_neg e, if_neg e]
  intro n
  induction n with
  | zero => intros; rfl
  | succ n ih =>
    intro i pr su le pa tr
    rw [lawRun, lawRun]
    simp only [ih, hs]
-- THE CLASS'S WORLD
def RowC (c : Cel) : Prop := ∃ r, c = cB 100 r
theorem not_row_o {ci : Nat} {fs : List Value} : ¬ RowC (cO ci fs) := fun ⟨r, h⟩ => by cases h
theorem not_row_i {m : Nat} {g : Nat → Int32} : ¬ RowC (cI m g) := fun ⟨r, h⟩ => by cases h
def LawA (f : Mf) (n lp : Nat) (L : Lw) : Prop := ∃ (sp m : Nat) (st : Nat → Int32) (kd vl : Nat → Nat), ((lp = 10 ∨ 49 ≤ lp) ∧ lp < n) ∧ ((sp = 11 ∨ 49 ≤ sp) ∧ sp < n) ∧ f lp = cO 3 [.int L.1, .int L.2.1, .ref sp] ∧ f sp = cI m st ∧ Enc st m kd vl ∧ ∀ F F' : Nat → Int32, (∀ j, j < 8 → F j = F' j) → lawRun kd vl F m 0 0 0 0 0 (Int64.ofNat 0) = L.2.2 F'
def KV (k w : Nat) (f : Mf) (bY kn fk fa ne : Int32) : Prop := f k = cO 2 [.ref w, .int bY, .ref 1, .ref (k + 1), .int kn, .int fk, .int fa, .int ne]
def KE (k w : Nat) (f : Mf) : Prop := (∃ bY kn fk fa ne, KV k w f bY kn fk fa ne) ∧ ∃ F, f (k + 1) = cI 8 F
def CW (S : Sta) (L : Lw) (lp N Z K : Nat) (f : Mf) (n z : Nat) : Prop :=
  CR S lp f ∧ OC f ∧ (49 ≤ n ∧ N ≤ CAP ∧ Z ≤ SCAP) ∧ LawA f n lp L ∧ KE 20 12 f ∧ KE 22 16 f ∧ ∃ g1 g2, WyR S 1 12 f n g1 K ∧ WyR S 0 16 f n g2 K ∧ (∀ i j p, i < 100 → j < 100 → g1 i = some p → g2 j ≠ some p) ∧ n + nulG g1 + nulG g2 = N ∧ z + 100 * (nulG g1 + nulG g2) = Z
/-- what a call of the class leaves as it was: all low cells but those of A, all later ones that are no rows, all old ones -/
def FRM (A : List Nat) (f : Mf) (n : Nat) (f' : Mf) : Prop := (∀ x, x < 49 → x ∉ A → f' x = f x) ∧ (∀ x, 49 ≤ x → x < n → ¬ RowC (f x) → f' x = f x) ∧ ∀ x, 1000000 ≤ x → f' x = f x
theorem FRM.refl (A : List Nat) (f : Mf) (n : Nat) : FRM A f n f := ⟨fun _ _ _ => rfl, fun _ _ _ _ => rfl, fun _ _ => rfl⟩
theorem FRM.trans {A : List Nat} {f f1 f2 : Mf} {n n1 : Nat} (h : FRM A f n f1) (hn : n ≤ n1) (h2 : FRM A f1 n1 f2) : FRM A f n f2 :=
  ⟨fun x a b => (h2.1 x a b).trans (h.1 x a b), fun x a b c => (h2.2.1 x a (by omega) (by rw [h.2.1 x a b c]; exact c)).trans (h.2.1 x a b c), fun x a => (h2.2.2 x a).trans (h.2.2 x a)⟩
theorem FRM.mono {A B : List Nat} {f f' : Mf} {n : Nat} (h : FRM A f n f') (hAB : ∀ x, x ∈ A → x ∈ B) : FRM B f n f' :=
  ⟨fun x a b => h.1 x a (fun q => b (hAB x q)), h.2.1, h.2.2⟩
theorem FRM.up {A : List Nat} {f f' : Mf} {n k : Nat} {c : Cel} (h : FRM A f n f') (hk : k < 49) (hA : k ∈ A) : FRM A f n (upC f' k c) :=
  ⟨fun x a b => by rw [upC_ne _ _ (fun e => b (by rw [e]; exact hA))]; exact h.1 x a b, fun x a b c => by rw [upC_ne _ _ (by omega)]; exact h.2.1 x a b c, fun x a => by rw [upC_ne _ _ (by omega)]; exact h.2.2 x a⟩
theorem WyR.row {S : Sta} {bs : Int32} {w n k i p : Nat} {f : Mf} {g : Nat → Option Nat} (h : WyR S bs w f n g k) (hi : i < 100) (hg : g i = some p) : RowC (f p) ∧ 49 ≤ p ∧ p < n := by
  obtain ⟨sg, qq, w1, w2, w3, w4, w5, w6, w7, w8⟩ := h
  obtain ⟨b1, b2, r, b3, b4⟩ := w7 i hi p hg
  exact ⟨⟨r, b3⟩, b1, b2⟩
theorem FRw.frm {S : Sta} {bs : Int32} {w n k : Nat} {f f' : Mf} {g : Nat → Option Nat} (h : FRw w f n g f') (hW : WyR S bs w f n g k) : FRM [w + 1, w + 2, w + 3] f n f' :=
  ⟨fun x a b => h.1 x a (by simpa using b), fun x a b c => h.2.1 x a b (fun i hi hg => c (hW.row hi hg).1), h.2.2⟩
theorem LawA.frm {A : List Nat} {f f' : Mf} {n n' lp : Nat} {L : Lw} (h : LawA f n lp L) (hF : FRM A f n f') (hA : 10 ∉ A ∧ 11 ∉ A) (hn : n ≤ n') : LawA f' n' lp L := by
  obtain ⟨sp, m, st, kd, vl, ⟨h1, h2⟩, ⟨h3, h4⟩, h5, h6, h7, h8⟩ := h
  refine ⟨sp, m, st, kd, vl, ⟨h1, by omega⟩, ⟨h3, by omega⟩, ?_, ?_, h7, h8⟩
  · rcases h1 with e | e
    · rw [hF.1 lp (by omega) (by rw [e]; exact hA.1)]; exact h5
    · rw [hF.2.1 lp e h2 (by rw [h5]; exact not_row_o)]; exact h5
  · rcases h3 with e | e
    · rw [hF.1 sp (by omega) (by rw [e]; exact hA.2)]; exact h6
    · rw [hF.2.1 sp e h4 (by rw [h6]; exact not_row_i)]; exact h6
theorem KE.cong {k w : Nat} {f f' : Mf} (h : KE k w f) (h1 : f' k = f k) (h2 : f' (k + 1) = f (k + 1)) : KE k w f' := by
  obtain ⟨⟨bY, kn, fk, fa, ne, h⟩, F, hF⟩ := h
  exact ⟨⟨bY, kn, fk, fa, ne, by unfold KV at *; rw [h1]; exact h⟩, F, by rw [h2]; exact hF⟩
theorem OC.cong {f f' : Mf} (h : OC f) (h1 : ∀ x, 1000000 ≤ x → f' x = f x) : OC f' := ⟨by rw [h1 _ (by omega)]; exact h.1, by rw [h1 _ (by omega)]; exact h.2⟩
theorem WyR.cong {S : Sta} {bs : Int32} {w n n' k : Nat} {f f' : Mf} {g : Nat → Option Nat} (h : WyR S bs w f n g k) (hn : n ≤ n') (h1 : f' w = f w) (h2 : f' (w + 1) = f (w + 1)) (h3 : f' (w + 2) = f (w + 2)) (h4 : f' (w + 3) = f (w + 3)) (h5 : ∀ i p, i < 100 → g i = some p → f' p = f p) : WyR S bs w f' n' g k := by
  obtain ⟨sg, qq, w1, w2, w3, w4, w5, w6, w7, w8⟩ := h
  refine ⟨sg, qq, by rw [h1]; exact w1, by rw [h2]; exact w2, by rw [h3]; exact w3, by rw [h4]; exact w4, w5, w6, fun i hi p hp => ?_, w8⟩
  obtain ⟨b1, b2, r, b3, b4⟩ := w7 i hi p hp
  exact ⟨b1, by omega, r, by rw [h5 i p hi hp]; exact b3, b4⟩
/-- a write to low cells outside of the world, or to the kings -/
theorem CW.off {S : Sta} {L : Lw} {lp N Z K n z : Nat} {f f' : Mf} (h : CW S L lp N Z K f n z) (h1 : ∀ x, x < 20 → f' x = f x) (h2 : ∀ x, 49 ≤ x → f' x = f x) (k1 : KE 20 12 f') (k2 : KE 22 16 f') : CW S L lp N Z K f' n z := by
  obtain ⟨c1, c2, c3, c4, -, -, g1, g2, w1, w2, w3, w4, w5⟩ := h
  refine ⟨c1.off (fun k _ b => h1 k (by omega)), c2.cong (fun x hx => h2 x (by omega)), c3, c4.frm (A := [20, 21, 22, 23, 24, 25, 26, 27, 28, 29, 30, 31, 32, 33, 34, 35, 36, 37, 38, 39, 40, 41, 42, 43, 44, 45, 46, 47, 48]) ⟨fun x a b => ?_, fun x a _ _ => h2 x a, fun x a => h2 x (by omega)⟩ (by decide) (Nat.le_refl _), k1, k2, g1, g2, w1.cong (Nat.le_refl _) (h1 _ (by omega)) (h1 _ (by omega)) (h1 _ (by omega)) (h1 _ (by omega)) (fun i p hi hp => h2 p (w1.row hi hp).2.1), w2.cong (Nat.le_refl _) (h1 _ (by omega)) (h1 _ (by omega)) (h1 _ (by omega)) (h1 _ (by omega)) (fun i p hi hp => h2 p (w2.row hi hp).2.1), w3, w4, w5⟩
  refine h1 x ?_
  simp at b
  omega
theorem CW.from_12 {S : Sta} {L : Lw} {lp N Z K n n' z z' a : Nat} {f f' : Mf} {v : Option Value} {g1 g2 : Nat → Option Nat} (h : CW S L lp N Z K f n z) (w1 : WyR S 1 12 f n g1 K) (w2 : WyR S 0 16 f n g2 K) (w3 : ∀ i j p, i < 100 → j < 100 → g1 i = some p → g2 j ≠ some p) (w4 : n + nulG g1 + nulG g2 = N) (w5 : z + 100 * (nulG g1 + nulG g2) = Z) (hF : FrP_12 S f n z a g1 K v n' z' f') : ∃ p r, v = some (.ref p) ∧ f' p = cB 100 r ∧ (∀ j, j < 100 → r j = wayS S 1 a j) ∧ CW S L lp N Z K f' n' z' ∧ FRM [13, 14, 15] f n f' ∧ n ≤ n' := by
  obtain ⟨c1, c2, ⟨c3, c3', c3''⟩, c4, k1, k2, -⟩ := h
  obtain ⟨p, r, g', e1, e2, e3, e4, e5, e6, e7, e8, e9⟩ := hF
  refine ⟨p, r, e1, e2, e3, ⟨c1.off (fun k a b => e5.1 k (by omega) (by omega)), c2.cong e5.2.2, ⟨by omega, c3', c3''⟩, c4.frm (e5.frm w1) (by decide) e8, k1.cong (e5.1 _ (by omega) (by omega)) (e5.1 _ (by omega) (by omega)), k2.cong (e5.1 _ (by omega) (by omega)) (e5.1 _ (by omega) (by omega)), g', g2, e4, w2.cong e8 (e5.1 _ (by omega) (by omega)) (e5.1 _ (by omega) (by omega)) (e5.1 _ (by omega) (by omega)) (e5.1 _ (by omega) (by omega)) (fun i p hi hp => e5.2.1 p (w2.row hi hp).2.1 (w2.row hi hp).2.2 (fun j hj hg => w3 j i p hj hi hg hp)), fun i j p hi hj h1 h2 => ?_, by omega, by omega⟩, e5.frm w1, e8⟩
  rcases e9 i p hi h1 with q | q
  · exact w3 i j p hi hj q h2
  · have := (w2.row hj h2).2.2; omega
theorem CW.from_16 {S : Sta} {L : Lw} {lp N Z K n n' z z' a : Nat} {f f' : Mf} {v : Option Value} {g1 g2 : Nat → Option Nat} (h : CW S L lp N Z K f n z) (w1 : WyR S 1 12 f n g1 K) (w2 : WyR S 0 16 f n g2 K) (w3 : ∀ i j p, i < 100 → j < 100 → g1 i = some p → g2 j ≠ some p) (w4 : n + nulG g1 + nulG g2 = N) (w5 : z + 100 * (nulG g1 + nulG g2) = Z) (hF : FrP_16 S f n z a g2 K v n' z' f') : ∃ p r, v = some (.ref p) ∧ f' p = cB 100 r ∧ (∀ j, j < 100 → r j = wayS S 0 a j) ∧ CW S L lp N Z K f' n' z' ∧ FRM [17, 18, 19] f n f' ∧ n ≤ n' := by
  obtain ⟨c1, c2, ⟨c3, c3', c3''⟩, c4, k1, k2, -⟩ := h
  obtain ⟨p, r, g', e1, e2, e3, e4, e5, e6, e7, e8, e9⟩ := hF
  refine ⟨p, r, e1, e2, e3, ⟨c1.off (fun k a b => e5.1 k (by omega) (by omega)), c2.cong e5.2.2, ⟨by omega, c3', c3''⟩, c4.frm (e5.frm w2) (by decide) e8, k1.cong (e5.1 _ (by omega) (by omega)) (e5.1 _ (by omega) (by omega)), k2.cong (e5.1 _ (by omega) (by omega)) (e5.1 _ (by omega) (by omega)), g1, g', w1.cong e8 (e5.1 _ (by omega) (by omega)) (e5.1 _ (by omega) (by omega)) (e5.1 _ (by omega) (by omega)) (e5.1 _ (by omega) (by omega)) (fun i p hi hp => e5.2.1 p (w1.row hi hp).2.1 (w1.row hi hp).2.2 (fun j hj hg => w3 i j p hi hj hp hg)), e4, fun i j p hi hj h1 h2 => ?_, by omega, by omega⟩, e5.frm w2, e8⟩
  rcases e9 j p hj h2 with q | q
  · exact w3 i j p hi hj h1 q
  · have := (w1.row hi h1).2.2; omega
/-- all bodies are on grass, or not there -/
def VB (S : Sta) : Prop := ∀ o, o < tn S + mn S + 1 → ybS S o = -1 ∨ ∃ c, gsN S c ∧ ybS S o = nI c
