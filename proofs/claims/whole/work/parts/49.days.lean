-- evenings that are like the one before
set_option maxRecDepth 100000
set_option maxHeartbeats 4000000
def sme1 (pa : Nat → Int32) (S : Sta) : Nat → Sta
  | 0 => S
  | k + 1 => upS (upS (sme1 pa S k) 5 k (sme1 pa S k 5 k + pa k)) 0 9 (sme1 pa S k 0 9 + pa k)
def smeS (pa : Nat → Int32) (S : Sta) : Sta := upS (sme1 pa S (tn S)) 0 8 (sme1 pa S (tn S) 0 8 + 1)
/-- a law that does not ask for the evening -/
def Lok (L : Lw) : Prop := L.2.1 = 0 → ∀ F F' : Nat → Int32, (∀ j, j < 7 → F j = F' j) → L.2.2 F = L.2.2 F'
theorem sme1_ok {pa : Nat → Int32} {S : Sta} : ∀ k, SmC S (sme1 pa S k) ∧ sme1 pa S k 0 8 = S 0 8
  | 0 => ⟨SmC.refl S, rfl⟩
  | k + 1 => by
    obtain ⟨h1, h2⟩ := sme1_ok (pa := pa) (S := S) k
    exact ⟨(h1.trans (SmC.arr _ _ (Or.inl rfl))).trans (SmC.num _ (Or.inr rfl)), by rw [sme1, upS_0 (by omega), upS_row (by omega)]; exact h2⟩
def nwh (S : Sta) : Prop := ∀ t, t < tn S → ¬ S 4 t = 3
theorem drS_id {S : Sta} {th : Int32} {t : Nat} (h : nwh S) (ht : t < tn S) : upS S 0 2 (drS S th t) = S := by
  rw [drS, if_neg (fun q => h t ht q.1), upS_id]
theorem ww1_id {L : Lw} {th : Int32} {S : Sta} (h : nwh S) : ∀ k, k ≤ tn S → (ww1 L th S k).1 = S
  | 0, _ => rfl
  | k + 1, hk => by
    have ih := ww1_id (L := L) (th := th) h k (by omega)
    show upS (ww1 L th S k).1 0 2 (drS (ww1 L th S k).1 th k) = S
    rw [ih]; exact drS_id h (by omega)
theorem ww1_w {L : Lw} {th : Int32} {S : Sta} (h : nwh S) : ∀ k t, k ≤ tn S → t < k → (ww1 L th S k).2 t = wishS S L th t
  | 0, _, _, ht => absurd ht (Nat.not_lt_zero _)
  | k + 1, t, hk, ht => by
    show (if t = k then wishS (ww1 L th S k).1 L th k else (ww1 L th S k).2 t) = _
    by_cases e : t = k
    · rw [if_pos e, ww1_id h k (by omega), e]
    · rw [if_neg e]; exact ww1_w h k t (by omega) (by omega)
theorem stp1_id {S : Sta} {th : Int32} {wl : Option (Nat → Option Nat)} {t : Nat} (h : nwh S) (ht : t < tn S) : stp1 th wl S t = S := by
  cases wl with
  | none => exact drS_id h ht
  | some g => rfl
/-- nobody goes: all stays -/
theorem nn1_still {L : Lw} {th : Int32} {wl : Option (Nat → Option Nat)} {S : Sta} (h : nwh S) : ∀ k, k ≤ tn S → (∀ t, t < k → ¬ goP S t (wsh1 L th wl S t)) → (nn1 L th wl S k).1 = S ∧ (nn1 L th wl S k).2.2 = 0 ∧ ∀ t, (nn1 L th wl S k).2.1 t = 0
  | 0, _, _ => ⟨rfl, rfl, fun _ => rfl⟩
  | k + 1, hk, hg => by
    obtain ⟨h1, h2, h3⟩ := nn1_still (L := L) (th := th) (wl := wl) h k (by omega) (fun t ht => hg t (by omega))
    have hn : ¬ goP (stp1 th wl (nn1 L th wl S k).1 k) k (wsh1 L th wl (nn1 L th wl S k).1 k) := by
      rw [h1, stp1_id h (by omega)]; exact hg k (by omega)
    rw [nn1_st hn]
    refine ⟨by rw [h1]; exact stp1_id h (by omega), h2, fun t => ?_⟩
    show upd _ k 0 t = 0
    rw [upd_ap]; split
    · rfl
    · exact h3 t
theorem nn1_still' {L : Lw} {th : Int32} {wl : Option (Nat → Option Nat)} {S : Sta} (h : nwh S) : ∀ k, k ≤ tn S → (nn1 L th wl S k).2.2 = 0 → (∀ t, t < k → ¬ goP S t (wsh1 L th wl S t))
  | 0, _, _ => fun t ht => absurd ht (Nat.not_lt_zero t)
  | k + 1, hk, hz => by
    by_cases hg : goP (stp1 th wl (nn1 L th wl S k).1 k) k (wsh1 L th wl (nn1 L th wl S k).1 k)
    · rw [nn1_go hg] at hz; cases hz
    · rw [nn1_st hg] at hz
      have ih := nn1_still' (L := L) (th := th) (wl := wl) h k (by omega) hz
      obtain ⟨h1, -, -⟩ := nn1_still (L := L) (th := th) (wl := wl) h k (by omega) ih
      intro t ht
      by_cases e : t = k
      · subst e
        rw [h1, stp1_id h (by omega)] at hg
        exact hg
      · exact ih t (by omega)
/-- alike for the pays, but for the evening -/
def SmE (S S' : Sta) : Prop := (∀ i, ¬ i = 2 → ¬ i = 8 → ¬ i = 9 → S' 0 i = S 0 i) ∧ ∀ j, ¬ j = 0 → ¬ j = 5 → ¬ j = 6 → S' j = S j
theorem SmC.sme {S S' : Sta} (h : SmC S S') : SmE S S' := ⟨fun i _ a b => h.1 i a b, h.2⟩
section SE
variable {S S' : Sta} {L : Lw}
/-- the same state with the other's evening -/
theorem SmE.smp (h : SmE S S') : SmP (upS S 0 8 (S' 0 8)) S' := by
  refine ⟨⟨?_, ?_, ?_, ?_, ?_, ?_⟩, ?_, ?_, ?_, ?_⟩
  · rw [upS_0 (by omega)]; exact h.1 _ (by omega) (by omega) (by omega)
  · rw [upS_0 (by omega)]; exact h.1 _ (by omega) (by omega) (by omega)
  · rw [upS_0 (by omega)]; exact h.1 _ (by omega) (by omega) (by omega)
  · rw [upS_0 (by omega)]; exact h.1 _ (by omega) (by omega) (by omega)
  · rw [upS_0 (by omega)]; exact h.1 _ (by omega) (by omega) (by omega)
  · rw [upS_self]
  · rw [upS_row (by omega)]; exact h.2 _ (by omega) (by omega) (by omega)
  · rw [upS_row (by omega)]; exact h.2 _ (by omega) (by omega) (by omega)
  · rw [upS_row (by omega)]; exact h.2 _ (by omega) (by omega) (by omega)
  · rw [upS_row (by omega)]; exact h.2 _ (by omega) (by omega) (by omega)
theorem pyC_ev (hL : Lok L) (h0 : L.2.1 = 0) (v : Int32) (bs : Int32) (t c : Nat) : pyC (upS S 0 8 v) L bs t c = pyC S L bs t c := by
  have e0 : ∀ j, ¬ j = 0 → upS S 0 8 v j = S j := fun j hj => upS_row hj
  have en : ∀ i, ¬ i = 8 → upS S 0 8 v 0 i = S 0 i := fun i hi => upS_0 hi
  have et : tn (upS S 0 8 v) = tn S := by unfold tn; rw [en 3 (by omega)]
  have em : mn (upS S 0 8 v) = mn S := by unfold mn; rw [en 4 (by omega)]
  have ew : wdt (upS S 0 8 v) = wdt S := by unfold wdt; rw [en 0 (by omega)]
  have eh : hgt (upS S 0 8 v) = hgt S := by unfold hgt; rw [en 1 (by omega)]
  have ey : ybS (upS S 0 8 v) = ybS S := by funext o; unfold ybS; rw [et, em, e0 2 (by omega), e0 8 (by omega), en 5 (by omega)]
  have ek : ∀ a b, kiS (upS S 0 8 v) a b ↔ kiS S a b := fun a b => by unfold kiS; rw [et, e0 2 (by omega), e0 3 (by omega)]
  have eo : opS (upS S 0 8 v) bs = opS S bs := by funext c; unfold opS; rw [ew, eh, e0 1 (by omega)]
  have ewy : wayS (upS S 0 8 v) bs = wayS S bs := by funext a c; unfold wayS; rw [eo]
  have ed : dN (upS S 0 8 v) bs = dN S bs := by funext a c; simp only [dN, ewy]
  have ef : ∀ t c, faA (upS S 0 8 v) bs t c = faA S bs t c := fun t c => by
    unfold faA; rw [et, em]
    refine mnF_cong fun o _ => ?_
    simp only [bdF, ey, ek, ed]
  have ene : neA (upS S 0 8 v) bs t c = neA S bs t c := by
    unfold neA; rw [et, em]
    refine cnt1_cong fun o _ => ?_
    simp only [nrP, ey, ed]
  have ekn : knN (upS S 0 8 v) t = knN S t := by
    have e : ∀ k, cnt1 (fun o => kiS (upS S 0 8 v) o t) k = cnt1 (fun o => kiS S o t) k := fun k => cnt1_cong fun o _ => ek _ _
    show cnt1 (fun o => kiS (upS S 0 8 v) o t) (tn (upS S 0 8 v)) = _
    rw [e, et]; rfl
  have efk : fkN (upS S 0 8 v) bs t = fkN S bs t := by
    unfold fkN; rw [et]
    refine mnF_cong fun o _ => ?_
    simp only [fkF, ek, ef, e0 2 (by omega)]
  unfold pyC payF
  rw [ef, ene, ekn, efk]
  congr 2
  refine hL h0 _ _ fun j hj => ?_
  have e1 : edN (upS S 0 8 v) c = edN S c := by unfold edN; rw [ew, eh]
  have e2 : wtN (upS S 0 8 v) c = wtN S c := by unfold wtN; rw [ew, eh, e0 1 (by omega)]
  rcases (by omega : j = 0 ∨ j = 1 ∨ j = 2 ∨ j = 3 ∨ j = 4 ∨ j = 5 ∨ j = 6) with rfl | rfl | rfl | rfl | rfl | rfl | rfl
  · rfl
  · show nI (edN _ _) = nI (edN _ _); rw [e1]
  · show nI (wtN _ _) = nI (wtN _ _); rw [e2]
  · rfl
  · rfl
  · rfl
  · rfl
theorem SmE.epyC (h : SmE S S') (hL : Lok L) (h0 : L.2.1 = 0) (bs : Int32) (t : Nat) : pyC S' L bs t = pyC S L bs t := by
  funext c; rw [h.smp.epyC, pyC_ev hL h0]
theorem SmE.py (h : SmE S S') (hL : Lok L) (h0 : L.2.1 = 0) (bs : Int32) (t : Nat) : pyN S' L bs t = pyN S L bs t := by
  unfold pyN; rw [h.epyC hL h0, h.2 2 (by omega) (by omega) (by omega)]
theorem SmE.etn (h : SmE S S') : tn S' = tn S := by unfold tn; rw [h.1 3 (by omega) (by omega) (by omega)]
theorem SmE.emn (h : SmE S S') : mn S' = mn S := by unfold mn; rw [h.1 4 (by omega) (by omega) (by omega)]
theorem SmE.cs (h : SmE S S') (c t fam : Int32) : csS S' c t fam ↔ csS S c t fam := by
  unfold csS grS inS manAtS clS
  rw [h.1 0 (by omega) (by omega) (by omega), h.1 1 (by omega) (by omega) (by omega), h.2 1 (by omega) (by omega) (by omega), h.2 2 (by omega) (by omega) (by omega), h.2 3 (by omega) (by omega) (by omega), h.2 8 (by omega) (by omega) (by omega), h.etn, h.emn]
theorem SmE.wish (h : SmE S S') (hL : Lok L) (h0 : L.2.1 = 0) (th : Int32) {t : Nat} (hw : ¬ S 4 t = 3) : wishS S' L th t = wishS S L th t := by
  have e4 := h.2 4 (by omega) (by omega) (by omega)
  have ef : ∀ R a, fsb S' L t R a = fsb S L t R a := fun R a => by
    unfold fsb
    rw [h.epyC hL h0, show cdR S' t R a = cdR S t R a by funext c; unfold cdR csN; rw [h.2 3 (by omega) (by omega) (by omega)]; exact congrArg (· ∧ _) (propext (h.cs _ _ _))]
  unfold wishS
  rw [e4, if_neg hw, if_neg hw]
  by_cases q : S 4 t = 0
  · rw [if_pos q, if_pos q]
  · rw [if_neg q, if_neg q]
    unfold wsF
    rw [ef, h.2 2 (by omega) (by omega) (by omega), h.py hL h0, h.1 6 (by omega) (by omega) (by omega)]
theorem SmE.go (h : SmE S S') (t : Nat) (w : Option Nat) : goP S' t w ↔ goP S t w := by
  unfold goP csN
  simp only [h.cs, h.2 3 (by omega) (by omega) (by omega)]
end SE
/-- nobody goes, nobody has whims, the law does not ask for the evening -/
def StI (L : Lw) (S : Sta) : Prop := (nwh S ∧ L.2.1 = 0) ∧ (noonS L 0 S).2.2 = 0
theorem noon_still {L : Lw} {th : Int32} {S : Sta} (h : nwh S) (hz : (noonS L th S).2.2 = 0) : (noonS L th S).1 = S ∧ ∀ t, (noonS L th S).2.1 t = 0 := by
  unfold noonS at hz ⊢
  by_cases q : S 0 7 = 0
  · rw [if_pos q] at hz ⊢
    obtain ⟨a, -, b⟩ := nn1_still h _ (Nat.le_refl _) (nn1_still' h _ (Nat.le_refl _) hz)
    exact ⟨a, b⟩
  · rw [if_neg q] at hz ⊢
    rw [ww1_id h _ (Nat.le_refl _)] at hz ⊢
    obtain ⟨a, -, b⟩ := nn1_still h _ (Nat.le_refl _) (nn1_still' h _ (Nat.le_refl _) hz)
    exact ⟨a, b⟩
theorem StI.next {L : Lw} {S S' : Sta} (hL : Lok L) (h : StI L S) (hE : SmE S S') : StI L S' := by
  obtain ⟨⟨h1, h2⟩, h3⟩ := h
  have h1' : nwh S' := fun t ht => by rw [hE.2 4 (by omega) (by omega) (by omega)]; rw [hE.etn] at ht; exact h1 t ht
  refine ⟨⟨h1', h2⟩, ?_⟩
  unfold noonS at h3 ⊢
  rw [hE.1 7 (by omega) (by omega) (by omega), hE.etn]
  by_cases q : S 0 7 = 0
  · rw [if_pos q] at h3 ⊢
    have hg := nn1_still' h1 _ (Nat.le_refl _) h3
    refine (nn1_still h1' (tn S) (by rw [hE.etn]; exact Nat.le_refl _) (fun t ht => ?_)).2.1
    have := hg t ht
    rw [hE.go, show wsh1 L 0 none S' t = wsh1 L 0 none S t from hE.wish hL h2 0 (h1 t ht)]
    exact this
  · rw [if_neg q] at h3 ⊢
    rw [ww1_id h1 _ (Nat.le_refl _)] at h3
    rw [ww1_id h1' _ (by rw [hE.etn]; exact Nat.le_refl _)]
    have hg := nn1_still' h1 _ (Nat.le_refl _) h3
    refine (nn1_still h1' (tn S) (by rw [hE.etn]; exact Nat.le_refl _) (fun t ht => ?_)).2.1
    have := hg t ht
    rw [hE.go]
    show ¬ goP S t ((ww1 L 0 S' (tn S)).2 t)
    have e1 : (ww1 L 0 S' (tn S)).2 t = (ww1 L 0 S (tn S)).2 t := by
      rw [ww1_w h1' _ _ (by rw [hE.etn]; exact Nat.le_refl _) ht, ww1_w h1 _ _ (Nat.le_refl _) ht]
      exact hE.wish hL h2 0 (h1 t ht)
    rw [e1]
    exact this
theorem pay1_still {L : Lw} {S : Sta} {go pa : Nat → Int32} (hg : ∀ t, go t = 0) : ∀ k, (∀ t, t < k → pa t = nI (pyN S L 1 t)) → pay1 L S go k = sme1 pa S k
  | 0, _ => rfl
  | k + 1, hp => by
    have ih := pay1_still (L := L) (S := S) (go := go) (pa := pa) hg k (fun t ht => hp t (by omega))
    rw [pay1, sme1, ih, hg k, i32_sub0, ← hp k (by omega)]
    obtain ⟨T, hT⟩ : ∃ T, T = sme1 pa S k := ⟨_, rfl⟩
    rw [← hT]
    have : upS (upS T 5 k (T 5 k + pa k)) 0 9 (T 0 9 + pa k) 6 k = T 6 k := by rw [upS_row (by omega), upS_row (by omega)]
    unfold pyT
    rw [Int32.add_zero, ← this, upS_id]
theorem eve_still {L : Lw} {S : Sta} {pa : Nat → Int32} (h : StI L S) (hp : ∀ t, t < tn S → pa t = nI (pyN S L 1 t)) : eveS L S = smeS pa S := by
  obtain ⟨a, b⟩ := noon_still h.1.1 h.2
  unfold eveS smeS
  rw [a, pay1_still b _ hp]
theorem eve_sme {L : Lw} {S : Sta} (h : nwh S) (hz : (noonS L 0 S).2.2 = 0) : SmE S (eveS L S) := by
  obtain ⟨a, b⟩ := noon_still h hz
  unfold eveS
  rw [a]
  exact ((pay1_ok _).1.trans (SmC.num _ (Or.inl rfl))).sme
section Days4
variable {G : Gam} {d n z lp N Z K t : Nat} {f : Mf} {S : Sta} {L : Lw}
theorem t_sameEvening (hG : Ok G) (hB : Bd S) (hW : CW S L lp N Z K f n z) {wi go pa : Nat → Int32} (hD : DY f wi go pa) : Tr G d 35 [.ref 24] n z f (fun v n' z' f' => v = none ∧ n' = n ∧ z' = z ∧ CW (smeS pa S) L lp N Z K f' n' z' ∧ ∀ x, ¬ x = 1 → ¬ x = 6 → f' x = f x) := by
  obtain ⟨⟨b1, b2⟩, -⟩ := id hB
  refine Tr.of2 (ls0 := [.ref 24, dead]) hG mo_X1_sameEvening (Nat.le_of_ble_eq_true rfl) rfl ?_
  intro X hi hd hXn hXz hXf hQ
  have loop : ∀ k' k g, k + k' = tn S → CW (sme1 pa S k) L lp N Z K g n z → DY g wi go pa → (∀ x, ¬ x = 1 → ¬ x = 6 → g x = f x) → V G X 2 [.ref 24, .int (nI k)] [] n z g := by
    intro k'
    induction k' with
    | zero =>
      intro k g hk hW' hD' hx
      have : k = tn S := by omega
      subst this
      obtain ⟨p1, p2⟩ := sme1_ok (pa := pa) (S := S) (tn S)
      have q3 : sme1 pa S (tn S) 0 3 = nI (tn S) := (p1.1 3 (by omega) (by omega)).trans b1
      have hsm : smeS pa S = upS (sme1 pa S (tn S)) 0 8 (sme1 pa S (tn S) 0 8 + 1) := rfl
      rw [hsm] at hQ
      obtain ⟨T, hT⟩ : ∃ T, T = sme1 pa S (tn S) := ⟨_, rfl⟩
      rw [← hT] at hW' p1 p2 q3 hQ
      have c1 := hW'.1.at
      have d1 := hD'.1
      have hC8 := hW'.1.num_8 (T 0 8 + 1)
      refine wp_sound (by rw [hi]; exact ok_X1_sameEvening) (hd := [2]) 400 _ _ _ _ _ _ ?_
      simp only [wp, stp, List.mem_cons, List.not_mem_nil, Nat.reduceEqDiff, or_false, or_self, false_or, or_true, true_or, Nat.reduceAdd, ↓reduceIte, List.getElem?_cons_zero, List.getElem?_cons_succ, nthV, List.set_cons_zero, List.set_cons_succ, noL, popA, catS, Value.category, List.length_cons, List.length_nil, Nat.reduceLT, Nat.reduceLeDiff, true_and, and_true, one0, zer1, imp_t, imp_f, ofN_nI, sdead, f20, f21, not_true_eq_false, upC_ap, upC_upC, retC, fitC, isRefT, Option.toList_some, Option.toList_none, List.cons_append, List.nil_append, Nat.lt_add_one, Nat.zero_lt_succ, Nat.le_refl, Nat.add_zero, Nat.zero_add, Nat.one_ne_zero, Nat.zero_ne_one, Nat.lt_irrefl, List.length_set, fa_X1_sameEvening, hi, hd, hQ, mr_X1_sameEvening, c1, d1]
      rw [q3]
      rw [q3] at hC8
      refine ⟨fun _ => ⟨hW'.camp (upS_0 (by omega)) (upS_0 (by omega)) (upS_row (by omega)) hC8 (fun x hx => upC_ne _ _ (by omega)), fun x h1 h2 => by rw [if_neg h1]; exact hx x h1 h2⟩, fun h => absurd (Int32.le_refl _) h⟩
    | succ k' ih =>
      intro k g hk hW' hD' hx
      obtain ⟨p1, p2⟩ := sme1_ok (pa := pa) (S := S) k
      have q3 : sme1 pa S k 0 3 = nI (tn S) := (p1.1 3 (by omega) (by omega)).trans b1
      have ih' := fun g => ih (k + 1) g (by omega)
      simp only [sme1] at ih'
      obtain ⟨T, hT⟩ : ∃ T, T = sme1 pa S k := ⟨_, rfl⟩
      rw [← hT] at hW' p1 p2 q3 ih'
      have tT : tn T = tn S := (p1.smp p2).etn
      obtain ⟨c1, kd, ya, fam, mo, co, mv, tp, my, -, -, -, -, -, -, -, -, c6, c6', c7, c7', -⟩ := id hW'.1
      obtain ⟨d1, d2, d3, d4⟩ := id hD'
      have ec : co k = T 5 k := c6' k (by omega)
      have hct : (nI k).toNatClampNeg = k := nI_clamp (by omega)
      have hit : vp_in (nI k) 10 := (vin_nI (by omega)).mpr (by omega)
      have hW3 : CW (upS T 5 k (T 5 k + pa k)) L lp N Z K (upC g 6 (cI 10 (upd co k (T 5 k + pa k)))) n z := hW'.arr (by omega) (SmC.arr _ _ (Or.inl rfl)) (hW'.1.arr_5 c6 k _)
      have h9 := hW3.1.num_9 (T 0 9 + pa k)
      rw [upS_row (show ¬ 0 = 5 by omega)] at h9
      have hW4 := hW3.camp (upS_0 (by omega)) (upS_0 (by omega)) (upS_row (by omega)) h9 (fun x hx => upC_ne _ _ (by omega))
      rw [q3] at c1 hW4
      refine wp_sound (by rw [hi]; exact ok_X1_sameEvening) (hd := [2]) 400 _ _ _ _ _ _ ?_
      simp only [wp, stp, List.mem_cons, List.not_mem_nil, Nat.reduceEqDiff, or_false, or_self, false_or, or_true, true_or, Nat.reduceAdd, ↓reduceIte, List.getElem?_cons_zero, List.getElem?_cons_succ, nthV, List.set_cons_zero, List.set_cons_succ, noL, popA, catS, Value.category, List.length_cons, List.length_nil, Nat.reduceLT, Nat.reduceLeDiff, true_and, and_true, one0, zer1, imp_t, imp_f, ofN_nI, sdead, f20, f21, not_true_eq_false, upC_ap, upC_upC, retC, fitC, isRefT, Option.toList_some, Option.toList_none, List.cons_append, List.nil_append, Nat.lt_add_one, Nat.zero_lt_succ, Nat.le_refl, Nat.add_zero, Nat.zero_add, Nat.one_ne_zero, Nat.zero_ne_one, Nat.lt_irrefl, List.length_set, fa_X1_sameEvening, hi, hd, hQ, mr_X1_sameEvening, c1, d1, d4, c6, hct, ec]
      rw [nI_1]
      refine ⟨fun h => absurd ((nI_leI (by omega) (by omega)).mp h) (by omega), fun _ => ⟨hit, hit, hit, hit, ih' _ hW4 (hD'.cong (fun x h1 h2 => by rw [upC_ne _ _ (by omega), upC_ne _ _ (by omega)])) (fun x h1 h2 => by rw [upC_ne _ _ h1, upC_ne _ _ h2]; exact hx x h1 h2)⟩⟩
  refine wp_sound (by rw [hi]; exact ok_X1_sameEvening) (hd := [2]) 400 _ _ _ _ _ _ ?_
  simp only [wp, stp, List.mem_cons, List.not_mem_nil, Nat.reduceEqDiff, or_false, or_self, false_or, or_true, true_or, Nat.reduceAdd, ↓reduceIte, List.getElem?_cons_zero, List.getElem?_cons_succ, nthV, List.set_cons_zero, List.set_cons_succ, noL, popA, catS, Value.category, List.length_cons, List.length_nil, Nat.reduceLT, Nat.reduceLeDiff, true_and, and_true, one0, zer1, imp_t, imp_f, ofN_nI, sdead, f20, f21, not_true_eq_false, upC_ap, upC_upC, retC, fitC, isRefT, Option.toList_some, Option.toList_none, List.cons_append, List.nil_append, Nat.lt_add_one, Nat.zero_lt_succ, Nat.le_refl, Nat.add_zero, Nat.zero_add, Nat.one_ne_zero, Nat.zero_ne_one, Nat.lt_irrefl, List.length_set, fa_X1_sameEvening, hi, hd, hQ, mr_X1_sameEvening]
  exact loop (tn S) 0 f (by omega) hW hD (fun _ _ _ => rfl)
end Days4
