-- states that pay alike; writes to the camp
set_option maxRecDepth 100000
set_option maxHeartbeats 4000000
def SmP (S S' : Sta) : Prop := (S' 0 0 = S 0 0 ∧ S' 0 1 = S 0 1 ∧ S' 0 3 = S 0 3 ∧ S' 0 4 = S 0 4 ∧ S' 0 5 = S 0 5 ∧ S' 0 8 = S 0 8) ∧ S' 1 = S 1 ∧ S' 2 = S 2 ∧ S' 3 = S 3 ∧ S' 8 = S 8
theorem SmP.refl (S : Sta) : SmP S S := ⟨⟨rfl, rfl, rfl, rfl, rfl, rfl⟩, rfl, rfl, rfl, rfl⟩
theorem SmP.trans {S S' S'' : Sta} (h : SmP S S') (h' : SmP S' S'') : SmP S S'' := by
  obtain ⟨⟨a1, a2, a3, a4, a5, a6⟩, a7, a8, a9, a10⟩ := h
  obtain ⟨⟨b1, b2, b3, b4, b5, b6⟩, b7, b8, b9, b10⟩ := h'
  exact ⟨⟨b1.trans a1, b2.trans a2, b3.trans a3, b4.trans a4, b5.trans a5, b6.trans a6⟩, b7.trans a7, b8.trans a8, b9.trans a9, b10.trans a10⟩
theorem upS_row {S : Sta} {j i : Nat} {v : Int32} {a : Nat} (h : ¬ a = j) : upS S j i v a = S a := by
  funext b; rw [upS_ap, if_neg (fun q => h q.1)]
theorem upS_0 {S : Sta} {i : Nat} {v : Int32} {b : Nat} (h : ¬ b = i) : upS S 0 i v 0 b = S 0 b := by rw [upS_ap, if_neg (fun q => h q.2)]
theorem upS_self {S : Sta} {j i : Nat} {v : Int32} : upS S j i v j i = v := by rw [upS_ap, if_pos ⟨rfl, rfl⟩]
theorem upS_ne {S : Sta} {j i : Nat} {v : Int32} {a b : Nat} (h : ¬ (a = j ∧ b = i)) : upS S j i v a b = S a b := by rw [upS_ap, if_neg h]
theorem SmP.num (S : Sta) (i : Nat) (v : Int32) (h : i = 2 ∨ i = 6 ∨ i = 7 ∨ i = 9) : SmP S (upS S 0 i v) :=
  ⟨⟨upS_0 (by omega), upS_0 (by omega), upS_0 (by omega), upS_0 (by omega), upS_0 (by omega), upS_0 (by omega)⟩, upS_row (by omega), upS_row (by omega), upS_row (by omega), upS_row (by omega)⟩
theorem SmP.arr (S : Sta) (j i : Nat) (v : Int32) (h : 4 ≤ j ∧ j ≤ 7) : SmP S (upS S j i v) :=
  ⟨⟨by rw [upS_row (by omega)], by rw [upS_row (by omega)], by rw [upS_row (by omega)], by rw [upS_row (by omega)], by rw [upS_row (by omega)], by rw [upS_row (by omega)]⟩, upS_row (by omega), upS_row (by omega), upS_row (by omega), upS_row (by omega)⟩
section Sm
variable {S S' : Sta}
theorem SmP.etn (h : SmP S S') : tn S' = tn S := by unfold tn; rw [h.1.2.2.1]
theorem SmP.emn (h : SmP S S') : mn S' = mn S := by unfold mn; rw [h.1.2.2.2.1]
theorem SmP.ewdt (h : SmP S S') : wdt S' = wdt S := by unfold wdt; rw [h.1.1]
theorem SmP.ehgt (h : SmP S S') : hgt S' = hgt S := by unfold hgt; rw [h.1.2.1]
theorem SmP.yb (h : SmP S S') : ybS S' = ybS S := by funext o; unfold ybS; rw [h.etn, h.emn, h.2.2.1, h.2.2.2.2, h.1.2.2.2.2.1]
theorem SmP.ki (h : SmP S S') (a b : Nat) : kiS S' a b ↔ kiS S a b := by unfold kiS; rw [h.etn, h.2.2.1, h.2.2.2.1]
theorem SmP.op (h : SmP S S') (bs : Int32) : opS S' bs = opS S bs := by funext c; unfold opS; rw [h.ewdt, h.ehgt, h.2.1]
theorem SmP.way (h : SmP S S') (bs : Int32) : wayS S' bs = wayS S bs := by funext a c; unfold wayS; rw [h.op]
theorem SmP.xdN (h : SmP S S') (bs : Int32) : dN S' bs = dN S bs := by funext a c; simp only [dN, h.way]
theorem SmP.gs (h : SmP S S') (c : Nat) : gsN S' c ↔ gsN S c := by unfold gsN; rw [h.ewdt, h.ehgt, h.2.1]
theorem SmP.fa (h : SmP S S') (bs : Int32) (t c : Nat) : faA S' bs t c = faA S bs t c := by
  unfold faA; rw [h.etn, h.emn]
  refine mnF_cong fun o _ => ?_
  simp only [bdF, h.yb, h.ki, h.xdN]
theorem SmP.ne (h : SmP S S') (bs : Int32) (t c : Nat) : neA S' bs t c = neA S bs t c := by
  unfold neA; rw [h.etn, h.emn]
  refine cnt1_cong fun o _ => ?_
  simp only [nrP, h.yb, h.xdN]
theorem SmP.kn (h : SmP S S') (t : Nat) : knN S' t = knN S t := by
  have e : ∀ k, cnt1 (fun o => kiS S' o t) k = cnt1 (fun o => kiS S o t) k := fun k => cnt1_cong fun o _ => h.ki _ _
  show cnt1 (fun o => kiS S' o t) (tn S') = _
  rw [e, h.etn]; rfl
theorem SmP.fk (h : SmP S S') (bs : Int32) (t : Nat) : fkN S' bs t = fkN S bs t := by
  unfold fkN; rw [h.etn]
  refine mnF_cong fun o _ => ?_
  simp only [fkF, h.ki, h.fa, h.2.2.1]
theorem SmP.fc (h : SmP S S') (c fa ne ki : Nat) : fcF S' c fa ne ki = fcF S c fa ne ki := by
  have e1 : edN S' c = edN S c := by unfold edN; rw [h.ewdt, h.ehgt]
  have e2 : wtN S' c = wtN S c := by unfold wtN; rw [h.ewdt, h.ehgt, h.2.1]
  have e3 := h.1.2.2.2.2.2
  funext j; unfold fcF; rw [e1, e2, e3]
theorem SmP.epyC (h : SmP S S') (L : Lw) (bs : Int32) (t : Nat) : pyC S' L bs t = pyC S L bs t := by
  funext c
  unfold pyC payF; rw [h.fk, h.fa, h.ne, h.kn, h.fc]
theorem SmP.py (h : SmP S S') (L : Lw) (bs : Int32) (t : Nat) : pyN S' L bs t = pyN S L bs t := by unfold pyN; rw [h.epyC, h.2.2.1]
theorem SmP.cs (h : SmP S S') (c t fam : Int32) : csS S' c t fam ↔ csS S c t fam := by
  unfold csS grS inS manAtS clS; rw [h.1.1, h.1.2.1, h.2.1, h.2.2.1, h.2.2.2.1, h.2.2.2.2, h.etn, h.emn]
theorem SmP.efsb (h : SmP S S') (L : Lw) (t R a : Nat) : fsb S' L t R a = fsb S L t R a := by
  unfold fsb
  rw [h.epyC, show cdR S' t R a = cdR S t R a by funext c; unfold cdR csN; rw [h.2.2.2.1]; exact congrArg (· ∧ _) (propext (h.cs _ _ _))]
theorem SmP.bd (h : SmP S S') (hB : Bd S) : Bd S' := by unfold Bd; rw [h.etn, h.emn, h.1.1, h.1.2.1, h.1.2.2.1, h.1.2.2.2.1]; exact hB
theorem SmP.vb (h : SmP S S') (hV : VB S) : VB S' := fun o ho => by
  rw [h.etn, h.emn] at ho
  rw [h.yb]
  rcases hV o ho with q | ⟨c, q1, q2⟩
  · exact Or.inl q
  · exact Or.inr ⟨c, (h.gs c).mpr q1, q2⟩
theorem SmP.ng (h : SmP S S') (hN : NG S) : NG S' := fun t ht => by rw [h.2.2.1]; rw [h.etn] at ht; exact hN t ht
theorem SmP.all (h : SmP S S') (L : Lw) : allN S' L = allN S L := by unfold allN; rw [h.etn]; exact smF_cong fun o _ => h.py L 1 o
end Sm
theorem WyR.cgS {S S' : Sta} {bs : Int32} {w n k : Nat} {f : Mf} {g : Nat → Option Nat} (h : WyR S bs w f n g k) (he : opS S' bs = opS S bs) : WyR S' bs w f n g k := by
  unfold WyR at *
  have : wayS S' bs = wayS S bs := by funext a c; unfold wayS; rw [he]
  rw [he, this]
  exact h
theorem opS_cg {S S' : Sta} (h0 : S' 0 0 = S 0 0) (h1 : S' 0 1 = S 0 1) (h2 : S' 1 = S 1) (bs : Int32) : opS S' bs = opS S bs := by
  funext c; unfold opS wdt hgt; rw [h0, h1, h2]
/-- a write to the camp alone, the plain as it was -/
theorem CW.camp {S S' : Sta} {L : Lw} {lp N Z K n z : Nat} {f f' : Mf} (h : CW S L lp N Z K f n z) (h0 : S' 0 0 = S 0 0) (h1 : S' 0 1 = S 0 1) (h2 : S' 1 = S 1) (hC : CR S' lp f') (hf : ∀ x, x = 0 ∨ 10 ≤ x → f' x = f x) : CW S' L lp N Z K f' n z := by
  obtain ⟨c1, c2, c3, c4, k1, k2, g1, g2, w1, w2, w3, w4, w5⟩ := h
  refine ⟨hC, c2.cong (fun x hx => hf x (by omega)), c3, c4.frm (A := [1, 2, 3, 4, 5, 6, 7, 8, 9]) ⟨fun x a b => hf x (by simp at b; omega), fun x a _ _ => hf x (by omega), fun x a => hf x (by omega)⟩ (by decide) (Nat.le_refl _), k1.cong (hf _ (by omega)) (hf _ (by omega)), k2.cong (hf _ (by omega)) (hf _ (by omega)), g1, g2, ?_, ?_, w3, w4, w5⟩
  · exact (w1.cong (Nat.le_refl _) (hf _ (by omega)) (hf _ (by omega)) (hf _ (by omega)) (hf _ (by omega)) (fun i p hi hp => hf p (by have := (w1.row hi hp).2.1; omega))).cgS (opS_cg h0 h1 h2 1)
  · exact (w2.cong (Nat.le_refl _) (hf _ (by omega)) (hf _ (by omega)) (hf _ (by omega)) (hf _ (by omega)) (fun i p hi hp => hf p (by have := (w2.row hi hp).2.1; omega))).cgS (opS_cg h0 h1 h2 0)
theorem CW.campS {S S' : Sta} {L : Lw} {lp N Z K n z : Nat} {f f' : Mf} (h : CW S L lp N Z K f n z) (hS : SmP S S') (hC : CR S' lp f') (hf : ∀ x, x = 0 ∨ 10 ≤ x → f' x = f x) : CW S' L lp N Z K f' n z := h.camp hS.1.1 hS.1.2.1 hS.2.1 hC hf
section CRw
variable {S : Sta} {lp : Nat} {f : Mf}
theorem CR.arr_2 (h : CR S lp f) {a : Nat → Int32} (ha : f 3 = cI 10 a) (t : Nat) (v : Int32) : CR (upS S 2 t v) lp (upC f 3 (cI 10 (upd a t v))) := by
  obtain ⟨h1, kd, ya, fa, mo, co, mv, tp, my, h2, h2', h3, h3', h4, h4', h5, h5', h6, h6', h7, h7', h8, h8', h9, h9'⟩ := h
  have et : tn (upS S 2 t v) = tn S := by unfold tn; rw [upS_row (by omega)]
  have em : mn (upS S 2 t v) = mn S := by unfold mn; rw [upS_row (by omega)]
  refine ⟨by rw [upC_ne _ _ (by omega), upS_row (by omega)]; exact h1, kd, upd ya t v, fa, mo, co, mv, tp, my, ?_⟩
  have e : a = ya := by rw [ha] at h3; cases h3; rfl
  subst e
  have up : ∀ t', t' < tn S → upd a t v t' = upS S 2 t v 2 t' := fun t' ht => by
    rw [upd_ap, upS_ap]
    by_cases q : t' = t
    · rw [if_pos q, if_pos ⟨rfl, q⟩]
    · rw [if_neg q, if_neg (fun z => q z.2)]; exact h3' t' ht
  rw [et, em]
  refine ⟨by rw [upC_ne _ _ (by omega)]; exact h2, fun i hi => by rw [upS_row (by omega)]; exact h2' i hi, upC_self _ _ _, up, by rw [upC_ne _ _ (by omega)]; exact h4, fun i hi => by rw [upS_row (by omega)]; exact h4' i hi, by rw [upC_ne _ _ (by omega)]; exact h5, fun i hi => by rw [upS_row (by omega)]; exact h5' i hi, by rw [upC_ne _ _ (by omega)]; exact h6, fun i hi => by rw [upS_row (by omega)]; exact h6' i hi, by rw [upC_ne _ _ (by omega)]; exact h7, fun i hi => by rw [upS_row (by omega)]; exact h7' i hi, by rw [upC_ne _ _ (by omega)]; exact h8, fun i hi => by rw [upS_row (by omega)]; exact h8' i hi, by rw [upC_ne _ _ (by omega)]; exact h9, fun i hi => by rw [upS_row (by omega)]; exact h9' i hi⟩
theorem CR.arr_3 (h : CR S lp f) {a : Nat → Int32} (ha : f 4 = cI 10 a) (t : Nat) (v : Int32) : CR (upS S 3 t v) lp (upC f 4 (cI 10 (upd a t v))) := by
  obtain ⟨h1, kd, ya, fa, mo, co, mv, tp, my, h2, h2', h3, h3', h4, h4', h5, h5', h6, h6', h7, h7', h8, h8', h9, h9'⟩ := h
  have et : tn (upS S 3 t v) = tn S := by unfold tn; rw [upS_row (by omega)]
  have em : mn (upS S 3 t v) = mn S := by unfold mn; rw [upS_row (by omega)]
  refine ⟨by rw [upC_ne _ _ (by omega), upS_row (by omega)]; exact h1, kd, ya, upd fa t v, mo, co, mv, tp, my, ?_⟩
  have e : a = fa := by rw [ha] at h4; cases h4; rfl
  subst e
  have up : ∀ t', t' < tn S → upd a t v t' = upS S 3 t v 3 t' := fun t' ht => by
    rw [upd_ap, upS_ap]
    by_cases q : t' = t
    · rw [if_pos q, if_pos ⟨rfl, q⟩]
    · rw [if_neg q, if_neg (fun z => q z.2)]; exact h4' t' ht
  rw [et, em]
  refine ⟨by rw [upC_ne _ _ (by omega)]; exact h2, fun i hi => by rw [upS_row (by omega)]; exact h2' i hi, by rw [upC_ne _ _ (by omega)]; exact h3, fun i hi => by rw [upS_row (by omega)]; exact h3' i hi, upC_self _ _ _, up, by rw [upC_ne _ _ (by omega)]; exact h5, fun i hi => by rw [upS_row (by omega)]; exact h5' i hi, by rw [upC_ne _ _ (by omega)]; exact h6, fun i hi => by rw [upS_row (by omega)]; exact h6' i hi, by rw [upC_ne _ _ (by omega)]; exact h7, fun i hi => by rw [upS_row (by omega)]; exact h7' i hi, by rw [upC_ne _ _ (by omega)]; exact h8, fun i hi => by rw [upS_row (by omega)]; exact h8' i hi, by rw [upC_ne _ _ (by omega)]; exact h9, fun i hi => by rw [upS_row (by omega)]; exact h9' i hi⟩
theorem CR.arr_4 (h : CR S lp f) {a : Nat → Int32} (ha : f 5 = cI 10 a) (t : Nat) (v : Int32) : CR (upS S 4 t v) lp (upC f 5 (cI 10 (upd a t v))) := by
  obtain ⟨h1, kd, ya, fa, mo, co, mv, tp, my, h2, h2', h3, h3', h4, h4', h5, h5', h6, h6', h7, h7', h8, h8', h9, h9'⟩ := h
  have et : tn (upS S 4 t v) = tn S := by unfold tn; rw [upS_row (by omega)]
  have em : mn (upS S 4 t v) = mn S := by unfold mn; rw [upS_row (by omega)]
  refine ⟨by rw [upC_ne _ _ (by omega), upS_row (by omega)]; exact h1, kd, ya, fa, upd mo t v, co, mv, tp, my, ?_⟩
  have e : a = mo := by rw [ha] at h5; cases h5; rfl
  subst e
  have up : ∀ t', t' < tn S → upd a t v t' = upS S 4 t v 4 t' := fun t' ht => by
    rw [upd_ap, upS_ap]
    by_cases q : t' = t
    · rw [if_pos q, if_pos ⟨rfl, q⟩]
    · rw [if_neg q, if_neg (fun z => q z.2)]; exact h5' t' ht
  rw [et, em]
  refine ⟨by rw [upC_ne _ _ (by omega)]; exact h2, fun i hi => by rw [upS_row (by omega)]; exact h2' i hi, by rw [upC_ne _ _ (by omega)]; exact h3, fun i hi => by rw [upS_row (by omega)]; exact h3' i hi, by rw [upC_ne _ _ (by omega)]; exact h4, fun i hi => by rw [upS_row (by omega)]; exact h4' i hi, upC_self _ _ _, up, by rw [upC_ne _ _ (by omega)]; exact h6, fun i hi => by rw [upS_row (by omega)]; exact h6' i hi, by rw [upC_ne _ _ (by omega)]; exact h7, fun i hi => by rw [upS_row (by omega)]; exact h7' i hi, by rw [upC_ne _ _ (by omega)]; exact h8, fun i hi => by rw [upS_row (by omega)]; exact h8' i hi, by rw [upC_ne _ _ (by omega)]; exact h9, fun i hi => by rw [upS_row (by omega)]; exact h9' i hi⟩
theorem CR.arr_5 (h : CR S lp f) {a : Nat → Int32} (ha : f 6 = cI 10 a) (t : Nat) (v : Int32) : CR (upS S 5 t v) lp (upC f 6 (cI 10 (upd a t v))) := by
  obtain ⟨h1, kd, ya, fa, mo, co, mv, tp, my, h2, h2', h3, h3', h4, h4', h5, h5', h6, h6', h7, h7', h8, h8', h9, h9'⟩ := h
  have et : tn (upS S 5 t v) = tn S := by unfold tn; rw [upS_row (by omega)]
  have em : mn (upS S 5 t v) = mn S := by unfold mn; rw [upS_row (by omega)]
  refine ⟨by rw [upC_ne _ _ (by omega), upS_row (by omega)]; exact h1, kd, ya, fa, mo, upd co t v, mv, tp, my, ?_⟩
  have e : a = co := by rw [ha] at h6; cases h6; rfl
  subst e
  have up : ∀ t', t' < tn S → upd a t v t' = upS S 5 t v 5 t' := fun t' ht => by
    rw [upd_ap, upS_ap]
    by_cases q : t' = t
    · rw [if_pos q, if_pos ⟨rfl, q⟩]
    · rw [if_neg q, if_neg (fun z => q z.2)]; exact h6' t' ht
  rw [et, em]
  refine ⟨by rw [upC_ne _ _ (by omega)]; exact h2, fun i hi => by rw [upS_row (by omega)]; exact h2' i hi, by rw [upC_ne _ _ (by omega)]; exact h3, fun i hi => by rw [upS_row (by omega)]; exact h3' i hi, by rw [upC_ne _ _ (by omega)]; exact h4, fun i hi => by rw [upS_row (by omega)]; exact h4' i hi, by rw [upC_ne _ _ (by omega)]; exact h5, fun i hi => by rw [upS_row (by omega)]; exact h5' i hi, upC_self _ _ _, up, by rw [upC_ne _ _ (by omega)]; exact h7, fun i hi => by rw [upS_row (by omega)]; exact h7' i hi, by rw [upC_ne _ _ (by omega)]; exact h8, fun i hi => by rw [upS_row (by omega)]; exact h8' i hi, by rw [upC_ne _ _ (by omega)]; exact h9, fun i hi => by rw [upS_row (by omega)]; exact h9' i hi⟩
theorem CR.arr_6 (h : CR S lp f) {a : Nat → Int32} (ha : f 7 = cI 10 a) (t : Nat) (v : Int32) : CR (upS S 6 t v) lp (upC f 7 (cI 10 (upd a t v))) := by
  obtain ⟨h1, kd, ya, fa, mo, co, mv, tp, my, h2, h2', h3, h3', h4, h4', h5, h5', h6, h6', h7, h7', h8, h8', h9, h9'⟩ := h
  have et : tn (upS S 6 t v) = tn S := by unfold tn; rw [upS_row (by omega)]
  have em : mn (upS S 6 t v) = mn S := by unfold mn; rw [upS_row (by omega)]
  refine ⟨by rw [upC_ne _ _ (by omega), upS_row (by omega)]; exact h1, kd, ya, fa, mo, co, upd mv t v, tp, my, ?_⟩
  have e : a = mv := by rw [ha] at h7; cases h7; rfl
  subst e
  have up : ∀ t', t' < tn S → upd a t v t' = upS S 6 t v 6 t' := fun t' ht => by
    rw [upd_ap, upS_ap]
    by_cases q : t' = t
    · rw [if_pos q, if_pos ⟨rfl, q⟩]
    · rw [if_neg q, if_neg (fun z => q z.2)]; exact h7' t' ht
  rw [et, em]
  refine ⟨by rw [upC_ne _ _ (by omega)]; exact h2, fun i hi => by rw [upS_row (by omega)]; exact h2' i hi, by rw [upC_ne _ _ (by omega)]; exact h3, fun i hi => by rw [upS_row (by omega)]; exact h3' i hi, by rw [upC_ne _ _ (by omega)]; exact h4, fun i hi => by rw [upS_row (by omega)]; exact h4' i hi, by rw [upC_ne _ _ (by omega)]; exact h5, fun i hi => by rw [upS_row (by omega)]; exact h5' i hi, by rw [upC_ne _ _ (by omega)]; exact h6, fun i hi => by rw [upS_row (by omega)]; exact h6' i hi, upC_self _ _ _, up, by rw [upC_ne _ _ (by omega)]; exact h8, fun i hi => by rw [upS_row (by omega)]; exact h8' i hi, by rw [upC_ne _ _ (by omega)]; exact h9, fun i hi => by rw [upS_row (by omega)]; exact h9' i hi⟩
theorem CR.arr_7 (h : CR S lp f) {a : Nat → Int32} (ha : f 8 = cI 10 a) (t : Nat) (v : Int32) : CR (upS S 7 t v) lp (upC f 8 (cI 10 (upd a t v))) := by
  obtain ⟨h1, kd, ya, fa, mo, co, mv, tp, my, h2, h2', h3, h3', h4, h4', h5, h5', h6, h6', h7, h7', h8, h8', h9, h9'⟩ := h
  have et : tn (upS S 7 t v) = tn S := by unfold tn; rw [upS_row (by omega)]
  have em : mn (upS S 7 t v) = mn S := by unfold mn; rw [upS_row (by omega)]
  refine ⟨by rw [upC_ne _ _ (by omega), upS_row (by omega)]; exact h1, kd, ya, fa, mo, co, mv, upd tp t v, my, ?_⟩
  have e : a = tp := by rw [ha] at h8; cases h8; rfl
  subst e
  have up : ∀ t', t' < tn S → upd a t v t' = upS S 7 t v 7 t' := fun t' ht => by
    rw [upd_ap, upS_ap]
    by_cases q : t' = t
    · rw [if_pos q, if_pos ⟨rfl, q⟩]
    · rw [if_neg q, if_neg (fun z => q z.2)]; exact h8' t' ht
  rw [et, em]
  refine ⟨by rw [upC_ne _ _ (by omega)]; exact h2, fun i hi => by rw [upS_row (by omega)]; exact h2' i hi, by rw [upC_ne _ _ (by omega)]; exact h3, fun i hi => by rw [upS_row (by omega)]; exact h3' i hi, by rw [upC_ne _ _ (by omega)]; exact h4, fun i hi => by rw [upS_row (by omega)]; exact h4' i hi, by rw [upC_ne _ _ (by omega)]; exact h5, fun i hi => by rw [upS_row (by omega)]; exact h5' i hi, by rw [upC_ne _ _ (by omega)]; exact h6, fun i hi => by rw [upS_row (by omega)]; exact h6' i hi, by rw [upC_ne _ _ (by omega)]; exact h7, fun i hi => by rw [upS_row (by omega)]; exact h7' i hi, upC_self _ _ _, up, by rw [upC_ne _ _ (by omega)]; exact h9, fun i hi => by rw [upS_row (by omega)]; exact h9' i hi⟩
theorem CR.num_2 (h : CR S lp f) (v : Int32) : CR (upS S 0 2 v) lp (upC f 1 (cO 0 [.int (S 0 0), .int (S 0 1), .int v, .ref 2, .int (S 0 3), .ref 3, .ref 4, .ref 5, .ref 6, .ref 7, .ref 8, .int (S 0 4), .ref 9, .int (S 0 5), .int (S 0 6), .int (S 0 7), .int (S 0 8), .int (S 0 9), .ref lp])) := by
  obtain ⟨h1, kd, ya, fa, mo, co, mv, tp, my, h2, h2', h3, h3', h4, h4', h5, h5', h6, h6', h7, h7', h8, h8', h9, h9'⟩ := h
  have et : tn (upS S 0 2 v) = tn S := by unfold tn; rw [upS_0 (by omega)]
  have em : mn (upS S 0 2 v) = mn S := by unfold mn; rw [upS_0 (by omega)]
  refine ⟨upC_self _ _ _, kd, ya, fa, mo, co, mv, tp, my, ?_⟩
  rw [et, em]
  refine ⟨by rw [upC_ne _ _ (by omega)]; exact h2, fun i hi => by rw [upS_row (by omega)]; exact h2' i hi, by rw [upC_ne _ _ (by omega)]; exact h3, fun i hi => by rw [upS_row (by omega)]; exact h3' i hi, by rw [upC_ne _ _ (by omega)]; exact h4, fun i hi => by rw [upS_row (by omega)]; exact h4' i hi, by rw [upC_ne _ _ (by omega)]; exact h5, fun i hi => by rw [upS_row (by omega)]; exact h5' i hi, by rw [upC_ne _ _ (by omega)]; exact h6, fun i hi => by rw [upS_row (by omega)]; exact h6' i hi, by rw [upC_ne _ _ (by omega)]; exact h7, fun i hi => by rw [upS_row (by omega)]; exact h7' i hi, by rw [upC_ne _ _ (by omega)]; exact h8, fun i hi => by rw [upS_row (by omega)]; exact h8' i hi, by rw [upC_ne _ _ (by omega)]; exact h9, fun i hi => by rw [upS_row (by omega)]; exact h9' i hi⟩
theorem CR.num_5 (h : CR S lp f) (v : Int32) : CR (upS S 0 5 v) lp (upC f 1 (cO 0 [.int (S 0 0), .int (S 0 1), .int (S 0 2), .ref 2, .int (S 0 3), .ref 3, .ref 4, .ref 5, .ref 6, .ref 7, .ref 8, .int (S 0 4), .ref 9, .int v, .int (S 0 6), .int (S 0 7), .int (S 0 8), .int (S 0 9), .ref lp])) := by
  obtain ⟨h1, kd, ya, fa, mo, co, mv, tp, my, h2, h2', h3, h3', h4, h4', h5, h5', h6, h6', h7, h7', h8, h8', h9, h9'⟩ := h
  have et : tn (upS S 0 5 v) = tn S := by unfold tn; rw [upS_0 (by omega)]
  have em : mn (upS S 0 5 v) = mn S := by unfold mn; rw [upS_0 (by omega)]
  refine ⟨upC_self _ _ _, kd, ya, fa, mo, co, mv, tp, my, ?_⟩
  rw [et, em]
  refine ⟨by rw [upC_ne _ _ (by omega)]; exact h2, fun i hi => by rw [upS_row (by omega)]; exact h2' i hi, by rw [upC_ne _ _ (by omega)]; exact h3, fun i hi => by rw [upS_row (by omega)]; exact h3' i hi, by rw [upC_ne _ _ (by omega)]; exact h4, fun i hi => by rw [upS_row (by omega)]; exact h4' i hi, by rw [upC_ne _ _ (by omega)]; exact h5, fun i hi => by rw [upS_row (by omega)]; exact h5' i hi, by rw [upC_ne _ _ (by omega)]; exact h6, fun i hi => by rw [upS_row (by omega)]; exact h6' i hi, by rw [upC_ne _ _ (by omega)]; exact h7, fun i hi => by rw [upS_row (by omega)]; exact h7' i hi, by rw [upC_ne _ _ (by omega)]; exact h8, fun i hi => by rw [upS_row (by omega)]; exact h8' i hi, by rw [upC_ne _ _ (by omega)]; exact h9, fun i hi => by rw [upS_row (by omega)]; exact h9' i hi⟩
theorem CR.num_6 (h : CR S lp f) (v : Int32) : CR (upS S 0 6 v) lp (upC f 1 (cO 0 [.int (S 0 0), .int (S 0 1), .int (S 0 2), .ref 2, .int (S 0 3), .ref 3, .ref 4, .ref 5, .ref 6, .ref 7, .ref 8, .int (S 0 4), .ref 9, .int (S 0 5), .int v, .int (S 0 7), .int (S 0 8), .int (S 0 9), .ref lp])) := by
  obtain ⟨h1, kd, ya, fa, mo, co, mv, tp, my, h2, h2', h3, h3', h4, h4', h5, h5', h6, h6', h7, h7', h8, h8', h9, h9'⟩ := h
  have et : tn (upS S 0 6 v) = tn S := by unfold tn; rw [upS_0 (by omega)]
  have em : mn (upS S 0 6 v) = mn S := by unfold mn; rw [upS_0 (by omega)]
  refine ⟨upC_self _ _ _, kd, ya, fa, mo, co, mv, tp, my, ?_⟩
  rw [et, em]
  refine ⟨by rw [upC_ne _ _ (by omega)]; exact h2, fun i hi => by rw [upS_row (by omega)]; exact h2' i hi, by rw [upC_ne _ _ (by omega)]; exact h3, fun i hi => by rw [upS_row (by omega)]; exact h3' i hi, by rw [upC_ne _ _ (by omega)]; exact h4, fun i hi => by rw [upS_row (by omega)]; exact h4' i hi, by rw [upC_ne _ _ (by omega)]; exact h5, fun i hi => by rw [upS_row (by omega)]; exact h5' i hi, by rw [upC_ne _ _ (by omega)]; exact h6, fun i hi => by rw [upS_row (by omega)]; exact h6' i hi, by rw [upC_ne _ _ (by omega)]; exact h7, fun i hi => by rw [upS_row (by omega)]; exact h7' i hi, by rw [upC_ne _ _ (by omega)]; exact h8, fun i hi => by rw [upS_row (by omega)]; exact h8' i hi, by rw [upC_ne _ _ (by omega)]; exact h9, fun i hi => by rw [upS_row (by omega)]; exact h9' i hi⟩
theorem CR.num_7 (h : CR S lp f) (v : Int32) : CR (upS S 0 7 v) lp (upC f 1 (cO 0 [.int (S 0 0), .int (S 0 1), .int (S 0 2), .ref 2, .int (S 0 3), .ref 3, .ref 4, .ref 5, .ref 6, .ref 7, .ref 8, .int (S 0 4), .ref 9, .int (S 0 5), .int (S 0 6), .int v, .int (S 0 8), .int (S 0 9), .ref lp])) := by
  obtain ⟨h1, kd, ya, fa, mo, co, mv, tp, my, h2, h2', h3, h3', h4, h4', h5, h5', h6, h6', h7, h7', h8, h8', h9, h9'⟩ := h
  have et : tn (upS S 0 7 v) = tn S := by unfold tn; rw [upS_0 (by omega)]
  have em : mn (upS S 0 7 v) = mn S := by unfold mn; rw [upS_0 (by omega)]
  refine ⟨upC_self _ _ _, kd, ya, fa, mo, co, mv, tp, my, ?_⟩
  rw [et, em]
  refine ⟨by rw [upC_ne _ _ (by omega)]; exact h2, fun i hi => by rw [upS_row (by omega)]; exact h2' i hi, by rw [upC_ne _ _ (by omega)]; exact h3, fun i hi => by rw [upS_row (by omega)]; exact h3' i hi, by rw [upC_ne _ _ (by omega)]; exact h4, fun i hi => by rw [upS_row (by omega)]; exact h4' i hi, by rw [upC_ne _ _ (by omega)]; exact h5, fun i hi => by rw [upS_row (by omega)]; exact h5' i hi, by rw [upC_ne _ _ (by omega)]; exact h6, fun i hi => by rw [upS_row (by omega)]; exact h6' i hi, by rw [upC_ne _ _ (by omega)]; exact h7, fun i hi => by rw [upS_row (by omega)]; exact h7' i hi, by rw [upC_ne _ _ (by omega)]; exact h8, fun i hi => by rw [upS_row (by omega)]; exact h8' i hi, by rw [upC_ne _ _ (by omega)]; exact h9, fun i hi => by rw [upS_row (by omega)]; exact h9' i hi⟩
theorem CR.num_8 (h : CR S lp f) (v : Int32) : CR (upS S 0 8 v) lp (upC f 1 (cO 0 [.int (S 0 0), .int (S 0 1), .int (S 0 2), .ref 2, .int (S 0 3), .ref 3, .ref 4, .ref 5, .ref 6, .ref 7, .ref 8, .int (S 0 4), .ref 9, .int (S 0 5), .int (S 0 6), .int (S 0 7), .int v, .int (S 0 9), .ref lp])) := by
  obtain ⟨h1, kd, ya, fa, mo, co, mv, tp, my, h2, h2', h3, h3', h4, h4', h5, h5', h6, h6', h7, h7', h8, h8', h9, h9'⟩ := h
  have et : tn (upS S 0 8 v) = tn S := by unfold tn; rw [upS_0 (by omega)]
  have em : mn (upS S 0 8 v) = mn S := by unfold mn; rw [upS_0 (by omega)]
  refine ⟨upC_self _ _ _, kd, ya, fa, mo, co, mv, tp, my, ?_⟩
  rw [et, em]
  refine ⟨by rw [upC_ne _ _ (by omega)]; exact h2, fun i hi => by rw [upS_row (by omega)]; exact h2' i hi, by rw [upC_ne _ _ (by omega)]; exact h3, fun i hi => by rw [upS_row (by omega)]; exact h3' i hi, by rw [upC_ne _ _ (by omega)]; exact h4, fun i hi => by rw [upS_row (by omega)]; exact h4' i hi, by rw [upC_ne _ _ (by omega)]; exact h5, fun i hi => by rw [upS_row (by omega)]; exact h5' i hi, by rw [upC_ne _ _ (by omega)]; exact h6, fun i hi => by rw [upS_row (by omega)]; exact h6' i hi, by rw [upC_ne _ _ (by omega)]; exact h7, fun i hi => by rw [upS_row (by omega)]; exact h7' i hi, by rw [upC_ne _ _ (by omega)]; exact h8, fun i hi => by rw [upS_row (by omega)]; exact h8' i hi, by rw [upC_ne _ _ (by omega)]; exact h9, fun i hi => by rw [upS_row (by omega)]; exact h9' i hi⟩
theorem CR.num_9 (h : CR S lp f) (v : Int32) : CR (upS S 0 9 v) lp (upC f 1 (cO 0 [.int (S 0 0), .int (S 0 1), .int (S 0 2), .ref 2, .int (S 0 3), .ref 3, .ref 4, .ref 5, .ref 6, .ref 7, .ref 8, .int (S 0 4), .ref 9, .int (S 0 5), .int (S 0 6), .int (S 0 7), .int (S 0 8), .int v, .ref lp])) := by
  obtain ⟨h1, kd, ya, fa, mo, co, mv, tp, my, h2, h2', h3, h3', h4, h4', h5, h5', h6, h6', h7, h7', h8, h8', h9, h9'⟩ := h
  have et : tn (upS S 0 9 v) = tn S := by unfold tn; rw [upS_0 (by omega)]
  have em : mn (upS S 0 9 v) = mn S := by unfold mn; rw [upS_0 (by omega)]
  refine ⟨upC_self _ _ _, kd, ya, fa, mo, co, mv, tp, my, ?_⟩
  rw [et, em]
  refine ⟨by rw [upC_ne _ _ (by omega)]; exact h2, fun i hi => by rw [upS_row (by omega)]; exact h2' i hi, by rw [upC_ne _ _ (by omega)]; exact h3, fun i hi => by rw [upS_row (by omega)]; exact h3' i hi, by rw [upC_ne _ _ (by omega)]; exact h4, fun i hi => by rw [upS_row (by omega)]; exact h4' i hi, by rw [upC_ne _ _ (by omega)]; exact h5, fun i hi => by rw [upS_row (by omega)]; exact h5' i hi, by rw [upC_ne _ _ (by omega)]; exact h6, fun i hi => by rw [upS_row (by omega)]; exact h6' i hi, by rw [upC_ne _ _ (by omega)]; exact h7, fun i hi => by rw [upS_row (by omega)]; exact h7' i hi, by rw [upC_ne _ _ (by omega)]; exact h8, fun i hi => by rw [upS_row (by omega)]; exact h8' i hi, by rw [upC_ne _ _ (by omega)]; exact h9, fun i hi => by rw [upS_row (by omega)]; exact h9' i hi⟩
end CRw
