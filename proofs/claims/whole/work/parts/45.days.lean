-- noons and evenings, as the document tells them
set_option maxRecDepth 100000
set_option maxHeartbeats 4000000
def eO (o : Option Nat) : Int32 := match o with | none => -1 | some c => nI c
def drI (s : Int32) : Int32 := 1664525 * s + 1013904223
def drV (s m : Int32) : Int32 := (s.toUInt32 >>> ((8 : Int32).toUInt32 &&& Int32.toUInt32 31)).toInt32 - (s.toUInt32 >>> ((8 : Int32).toUInt32 &&& Int32.toUInt32 31)).toInt32 / m * m
def whY (S : Sta) : Int32 := 10 * drV (drI (drI (S 0 2))) (S 0 1) + drV (drI (S 0 2)) (S 0 0)
def whS (S : Sta) (t : Nat) : Option Nat := if csS S (whY S) (nI t) (S 3 t) ∧ ¬ whY S = S 2 t then some (whY S).toNatClampNeg else none
noncomputable def wsF (S : Sta) (L : Lw) (R t : Nat) : Option Nat := match fsb S L t R (S 2 t).toNatClampNeg with
  | none => none
  | some q => if pyN S L 1 t + (S 0 6).toNatClampNeg < q.2 then some q.1 else none
noncomputable def wishS (S : Sta) (L : Lw) (th : Int32) (t : Nat) : Option Nat := if S 4 t = 3 then (if th = 0 then whS S t else none) else if S 4 t = 0 then none else wsF S L (if S 4 t = 1 then 10 else 1) t
def drS (S : Sta) (th : Int32) (t : Nat) : Int32 := if S 4 t = 3 ∧ th = 0 then drI (drI (S 0 2)) else S 0 2
/-- a tent goes where it wished -/
def goP (S : Sta) (t : Nat) (w : Option Nat) : Prop := ∃ c, w = some c ∧ csN S t c
def stp1 (th : Int32) (wl : Option (Nat → Option Nat)) (S : Sta) (k : Nat) : Sta := match wl with | none => upS S 0 2 (drS S th k) | some _ => S
noncomputable def wsh1 (L : Lw) (th : Int32) (wl : Option (Nat → Option Nat)) (S : Sta) (k : Nat) : Option Nat := match wl with | none => wishS S L th k | some g => g k
noncomputable def nn1 (L : Lw) (th : Int32) (wl : Option (Nat → Option Nat)) (S : Sta) : Nat → Sta × (Nat → Int32) × Nat
  | 0 => (S, fun _ => 0, 0)
  | k + 1 => @ite _ (goP (stp1 th wl (nn1 L th wl S k).1 k) k (wsh1 L th wl (nn1 L th wl S k).1 k)) (Classical.propDecidable _)
      (upS (stp1 th wl (nn1 L th wl S k).1 k) 2 k (eO (wsh1 L th wl (nn1 L th wl S k).1 k)), upd (nn1 L th wl S k).2.1 k 1, (nn1 L th wl S k).2.2 + 1)
      ((stp1 th wl (nn1 L th wl S k).1 k), upd (nn1 L th wl S k).2.1 k 0, (nn1 L th wl S k).2.2)
/-- the wishes of all, before anybody goes -/
noncomputable def ww1 (L : Lw) (th : Int32) (S : Sta) : Nat → Sta × (Nat → Option Nat)
  | 0 => (S, fun _ => none)
  | k + 1 => (upS (ww1 L th S k).1 0 2 (drS (ww1 L th S k).1 th k), fun t => if t = k then wishS (ww1 L th S k).1 L th k else (ww1 L th S k).2 t)
noncomputable def noonS (L : Lw) (th : Int32) (S : Sta) : Sta × (Nat → Int32) × Nat := if S 0 7 = 0 then nn1 L th none S (tn S) else nn1 L th (some (ww1 L th S (tn S)).2) (ww1 L th S (tn S)).1 (tn S)
theorem upS_id (S : Sta) (j i : Nat) : upS S j i (S j i) = S := by
  funext a b; rw [upS_ap]
  by_cases h : a = j ∧ b = i
  · rw [if_pos h, h.1, h.2]
  · rw [if_neg h]
theorem upS_upS (S : Sta) (j i : Nat) (v w : Int32) : upS (upS S j i v) j i w = upS S j i w := by
  funext a b; rw [upS_ap, upS_ap, upS_ap]
  by_cases h : a = j ∧ b = i
  · rw [if_pos h, if_pos h]
  · rw [if_neg h, if_neg h, if_neg h]
/-- every tent could stand where it stands -/
def StS (S : Sta) : Prop := ∀ t, t < tn S → csS S (S 2 t) (nI t) (S 3 t)
/-- what holds of a state between calls -/
def VS (S : Sta) : Prop := (Bd S ∧ mn S ≤ 5) ∧ VB S ∧ NG S ∧ StS S ∧ (∃ fi, fi ≤ 9999 ∧ S 0 6 = nI fi) ∧ (S 0 7 = 0 ∨ S 0 7 = 1) ∧ ∀ c, c < 100 → S 1 c = 0 ∨ S 1 c = 1 ∨ S 1 c = 2
theorem VS.home {S : Sta} (h : VS S) {t : Nat} (ht : t < tn S) : ∃ c, gsN S c ∧ S 2 t = nI c := h.2.1.tent ht (h.2.2.1 t ht)
theorem VS.dr {S : Sta} (h : VS S) (v : Int32) : VS (upS S 0 2 v) := by
  have hS : SmP S (upS S 0 2 v) := SmP.num S 2 v (Or.inl rfl)
  obtain ⟨⟨h1, h1'⟩, h2, h3, h4, h5, h6, h7⟩ := h
  refine ⟨⟨hS.bd h1, by rw [hS.emn]; exact h1'⟩, hS.vb h2, hS.ng h3, fun t ht => ?_, by rw [upS_0 (by omega)]; exact h5, by rw [upS_0 (by omega)]; exact h6, by rw [hS.2.1]; exact h7⟩
  rw [hS.2.2.1, hS.2.2.2.1, hS.cs]
  exact h4 t (by rw [← hS.etn]; exact ht)
theorem nI_inj {a b : Nat} (ha : a < 2147483648) (hb : b < 2147483648) (h : nI a = nI b) : a = b := (nI_eq ha hb).mp h
theorem VB.mv {S : Sta} (h : VB S) {t c : Nat} (hc : gsN S c) : VB (upS S 2 t (nI c)) := by
  intro o ho
  have e : ybS (upS S 2 t (nI c)) o = if o < tn S ∧ o = t then nI c else ybS S o := by
    show (if o < tn S then (if 2 = 2 ∧ o = t then nI c else S 2 o) else if o < tn S + mn S then S 8 (o - tn S) else S 0 5) = _
    by_cases h1 : o < tn S
    · by_cases h2 : o = t
      · rw [if_pos h1, if_pos ⟨rfl, h2⟩, if_pos ⟨h1, h2⟩]
      · rw [if_pos h1, if_neg (fun z => h2 z.2), if_neg (fun z => h2 z.2), ybS, if_pos h1]
    · rw [if_neg h1, if_neg (fun (z : o < tn S ∧ o = t) => h1 z.1), ybS, if_neg h1]
  rw [e]
  by_cases h1 : o < tn S ∧ o = t
  · rw [if_pos h1]; exact Or.inr ⟨c, hc, rfl⟩
  · rw [if_neg h1]; exact h o ho
theorem VS.mv {S : Sta} (h : VS S) {t c : Nat} (ht : t < tn S) (hc : c < 100) (hcs : csN S t c) : VS (upS S 2 t (nI c)) := by
  obtain ⟨⟨h1, h1'⟩, h2, h3, h4, h5, h6, h7⟩ := h
  have hgs : gsN S c := (gr_gs h1 hc).mp hcs.1.1
  refine ⟨⟨h1, h1'⟩, h2.mv hgs, fun o ho => ?_, fun o ho => ?_, h5, h6, h7⟩
  · by_cases e : o = t
    · subst e; rw [upS_self, nI_em (by omega)]; exact id
    · rw [upS_ne (fun z => e z.2)]; exact h3 o ho
  · have ho : o < tn S := ho
    have e3 : ∀ x, upS S 2 t (nI c) 3 x = S 3 x := fun x => by rw [upS_row (by omega)]
    by_cases e : o = t
    · subst e
      rw [upS_self, e3]
      refine ⟨hcs.1, fun p hp q => ?_⟩
      rw [e3, upS_ap] at q
      have hp : p < tn S := hp
      by_cases e2 : p = o
      · subst e2; exact q.1.1 rfl
      · rw [if_neg (fun z => e2 z.2)] at q
        exact hcs.2 p hp q
    · rw [upS_ne (fun z => e z.2), e3]
      refine ⟨(h4 o ho).1, fun p hp q => ?_⟩
      rw [e3, upS_ap] at q
      have hp : p < tn S := hp
      by_cases e2 : p = t
      · subst e2
        rw [if_pos ⟨rfl, rfl⟩] at q
        obtain ⟨⟨q1, q2⟩, q3⟩ := q
        have := hcs.2 o ho
        refine this ⟨⟨fun z => e (nI_inj (by have := h1.1.2; omega) (by have := h1.1.2; omega) z), q2.symm⟩, ?_⟩
        rcases q3 with q3 | q3
        · by_cases z : S 3 p = 0
          · exact Or.inl z
          · exact Or.inr (fun w => z (by rw [← w, q3]))
        · exact Or.inr (fun w => q3 w.symm)
      · rw [if_neg (fun z => e2 z.2)] at q
        exact (h4 o ho).2 p hp q
theorem csS_100 {S : Sta} {c t fam : Int32} (h : csS S c t fam) : ∃ k, k < 100 ∧ c = nI k := by
  obtain ⟨⟨⟨⟨⟨h1, h2⟩, -⟩, -⟩, -⟩, -⟩ := h
  obtain ⟨j, hj, rfl⟩ := nI_of2 (M := 99) (n := 99) rfl h1 (by
    have h99 : (99 : Int32).toInt = 99 := rfl
    have h100 : (100 : Int32).toInt = 100 := rfl
    rw [Int32.le_iff_toInt_le] at h2 ⊢
    omega)
  exact ⟨j, by omega, rfl⟩
theorem wishS_lt {S : Sta} {L : Lw} {th : Int32} {t c : Nat} (h : wishS S L th t = some c) : c < 100 := by
  unfold wishS at h
  have hw : whS S t = some c → c < 100 := fun h => by
    unfold whS at h
    split at h
    · next q =>
      obtain ⟨k, hk, e⟩ := csS_100 q.1
      rw [e, nI_clamp (by omega)] at h
      cases h; exact hk
    · cases h
  have hf : ∀ R, wsF S L R t = some c → c < 100 := fun R h => by
    unfold wsF at h
    split at h
    · cases h
    · next q e =>
      split at h
      · cases h; exact (amx_in e).1
      · cases h
  split at h
  · split at h
    · exact hw h
    · cases h
  · split at h
    · cases h
    · exact hf _ h
/-- alike but for the draws and the tents' places -/
def SmQ (S S' : Sta) : Prop := (∀ i, ¬ i = 2 → S' 0 i = S 0 i) ∧ ∀ j, ¬ j = 0 → ¬ j = 2 → S' j = S j
theorem SmQ.refl (S : Sta) : SmQ S S := ⟨fun _ _ => rfl, fun _ _ _ => rfl⟩
theorem SmQ.dr {S S' : Sta} (h : SmQ S S') (v : Int32) : SmQ S (upS S' 0 2 v) := ⟨fun i hi => by rw [upS_0 hi]; exact h.1 i hi, fun j h0 h2 => by rw [upS_row h0]; exact h.2 j h0 h2⟩
theorem SmQ.mv {S S' : Sta} (h : SmQ S S') (t : Nat) (v : Int32) : SmQ S (upS S' 2 t v) := ⟨fun i hi => by rw [upS_row (by omega)]; exact h.1 i hi, fun j h0 h2 => by rw [upS_row h2]; exact h.2 j h0 h2⟩
theorem SmQ.etn {S S' : Sta} (h : SmQ S S') : tn S' = tn S := by unfold tn; rw [h.1 3 (by omega)]
theorem nn1_ok {L : Lw} {th : Int32} {wl : Option (Nat → Option Nat)} {S : Sta} (hS : VS S) (hw : ∀ g, wl = some g → ∀ t c, g t = some c → c < 100) : ∀ k, k ≤ tn S → VS (nn1 L th wl S k).1 ∧ SmQ S (nn1 L th wl S k).1
  | 0, _ => ⟨hS, SmQ.refl S⟩
  | k + 1, hk => by
    obtain ⟨h1, h2⟩ := nn1_ok hS hw k (by omega)
    have key : ∀ S1 w, VS S1 ∧ SmQ S S1 → (∀ c, w = some c → c < 100) → goP S1 k w → VS (upS S1 2 k (eO w)) ∧ SmQ S (upS S1 2 k (eO w)) := by
      rintro S1 w ⟨q1, q2⟩ q3 ⟨c, rfl, q4⟩
      exact ⟨q1.mv (by rw [q2.etn]; omega) (q3 c rfl) q4, q2.mv _ _⟩
    have kd : VS (stp1 th wl (nn1 L th wl S k).1 k) ∧ SmQ S (stp1 th wl (nn1 L th wl S k).1 k) := by
      cases wl with
      | none => exact ⟨h1.dr _, h2.dr _⟩
      | some g => exact ⟨h1, h2⟩
    rw [nn1]
    by_cases e : goP (stp1 th wl (nn1 L th wl S k).1 k) k (wsh1 L th wl (nn1 L th wl S k).1 k)
    · rw [if_pos e]
      refine key _ _ kd (fun c hc => ?_) e
      cases wl with
      | none => exact wishS_lt hc
      | some g => exact hw g rfl k c hc
    · rw [if_neg e]
      exact kd
theorem ww1_ok {L : Lw} {th : Int32} {S : Sta} (hS : VS S) : ∀ k, VS (ww1 L th S k).1 ∧ SmQ S (ww1 L th S k).1 ∧ (∀ t c, (ww1 L th S k).2 t = some c → c < 100)
  | 0 => ⟨hS, SmQ.refl S, fun t c h => by cases h⟩
  | k + 1 => by
    obtain ⟨h1, h2, h3⟩ := ww1_ok hS k
    refine ⟨h1.dr _, h2.dr _, fun t c h => ?_⟩
    have h : (if t = k then wishS (ww1 L th S k).1 L th k else (ww1 L th S k).2 t) = some c := h
    split at h
    · exact wishS_lt h
    · exact h3 t c h
theorem noonS_ok {L : Lw} {th : Int32} {S : Sta} (hS : VS S) : VS (noonS L th S).1 ∧ SmQ S (noonS L th S).1 := by
  unfold noonS
  split
  · exact nn1_ok hS (fun g h => by cases h) _ (Nat.le_refl _)
  · obtain ⟨h1, h2, h3⟩ := ww1_ok (L := L) (th := th) hS (tn S)
    obtain ⟨h4, h5⟩ := nn1_ok (L := L) (th := th) (wl := some (ww1 L th S (tn S)).2) h1 (fun g h => by cases h; exact h3) (tn S) (by rw [h2.etn]; exact Nat.le_refl _)
    exact ⟨h4, fun i hi => (h5.1 i hi).trans (h2.1 i hi), fun j h0 h2' => (h5.2 j h0 h2').trans (h2.2 j h0 h2')⟩
