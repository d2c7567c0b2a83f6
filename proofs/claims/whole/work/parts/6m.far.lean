-- FarFromAnybody: blocks made and changed; the law's text
set_option maxRecDepth 100000
set_option maxHeartbeats 4000000
section X8m
variable {G : Gam} {d : Nat} {S S' : Sta} {L : Lw} {lp N Z K n n' z z' tl i : Nat} {ro to ko : Option Nat} {tb : Nat → Nat} {fk fp : Int32} {kp : Option (Sta × Lw)} {f f' : Mf}
theorem LawA.co {lq : Nat} (h : LawA f n lq L) (hP : LwP f lq L) (h0 : f' lq = f lq) (h1 : f' (lq + 1) = f (lq + 1)) (hn : n ≤ n') : LawA f' n' lq L := by
  obtain ⟨sp, m, st, kd, vl, ⟨a1, a2⟩, ⟨a3, a4⟩, a5, a6, a7, a8⟩ := h
  have e : sp = lq + 1 := by
    have := a5.symm.trans hP
    simpa [cO] using this
  subst e
  exact ⟨lq + 1, m, st, kd, vl, ⟨a1, by omega⟩, ⟨a3, by omega⟩, by rw [h0]; exact a5, by rw [h1]; exact a6, a7, a8⟩
theorem LwP.co {lq : Nat} (hP : LwP f lq L) (h0 : f' lq = f lq) : LwP f' lq L := by unfold LwP at *; rw [h0]; exact hP
theorem LawA.sp {lq : Nat} (h : LawA f n lq L) (hP : LwP f lq L) : lq + 1 < n ∧ ¬ RowC (f lq) ∧ ¬ RowC (f (lq + 1)) := by
  obtain ⟨sp, m, st, kd, vl, ⟨a1, a2⟩, ⟨a3, a4⟩, a5, a6, a7, a8⟩ := h
  have e : sp = lq + 1 := by
    have := a5.symm.trans hP
    simpa [cO] using this
  subst e
  exact ⟨a4, by rw [a5]; exact not_row_o, by rw [a6]; exact not_row_i⟩
theorem BR.keep {lq : Nat} (h : BR f n lp ro) (hn : n ≤ n') (hl : ∀ r, ro = some r → ap2 r 5 lq 2) (hf : ∀ r, ro = some r → ∀ x, r ≤ x → x ≤ r + 4 → f' x = f x) : BR f' n' lq ro := fun r hr => by
  obtain ⟨h1, h2, I, kd, pl, vl, st, h3⟩ := h r hr
  exact ⟨by omega, hl r hr, I, kd, pl, vl, st, h3.cong (hf r hr)⟩
theorem BT.keep {lq : Nat} (h : BT f n lp to) (hn : n ≤ n') (hl : ∀ t, to = some t → ap2 t 5 lq 2) (hf : ∀ t, to = some t → ∀ x, t ≤ x → x ≤ t + 4 → f' x = f x) : BT f' n' lq to := fun t ht => by
  obtain ⟨h1, h2, an, pl, cn, py, bs, h3⟩ := h t ht
  exact ⟨by omega, hl t ht, an, pl, cn, py, bs, h3.cong (hf t ht)⟩
/-- the kept camp is left alone, the reader or the placings may be new -/
theorem BK.keep {ro' to' : Option Nat} {b : Nat} (h : BK f n lp ro to ko kp) (hn : n ≤ n') (hr : ro' = ro ∨ ro' = some b) (ht : to' = to ∨ to' = some b) (hb : n ≤ b ∨ (ro = some b ∧ to' = to) ∨ (to = some b ∧ ro' = ro)) (hf : ∀ x, x < n → ¬ RowC (f x) → ¬ (b ≤ x ∧ x ≤ b + 4) → (x = 10 ∨ x = 11 ∨ 49 ≤ x) → f' x = f x) (h30 : 49 ≤ b) : BK f' n' lp ro' to' ko kp := by
  cases ko with
  | none => cases kp with
    | none => trivial
    | some q => exact h.elim
  | some k => cases kp with
    | none => exact h.elim
    | some q =>
      obtain ⟨S2, L2⟩ := q
      obtain ⟨h1, h2, h3, h4, h5, lq, h6, h7, h8, h9, h10, h11⟩ := h
      obtain ⟨s1, s2, s3⟩ := h7.sp h8
      have hq := h7.at.1
      have apk : ap2 b 5 k 9 := by
        rcases hb with q | q | q
        · exact Or.inr (by omega)
        · exact h4 b q.1
        · exact h5 b q.1
      have apl : ap2 b 5 lq 2 := by
        rcases hb with q | q | q
        · exact Or.inr (by omega)
        · exact h10 b q.1
        · exact h11 b q.1
      unfold ap2 at apk apl
      refine ⟨by omega, h2, h3, fun r e => ?_, fun t e => ?_, lq, h6.cong (fun x a c => hf x (by omega) (h6.row a c) (by omega) (by omega)), h7.co h8 (hf lq (by omega) s2 (by omega) (by omega)) (hf (lq + 1) (by omega) s3 (by omega) (by omega)) hn, h8.co (hf lq (by omega) s2 (by omega) (by omega)), h9, fun r e => ?_, fun t e => ?_⟩
      · rcases hr with q | q
        · exact h4 r (q ▸ e)
        · rw [q] at e; cases e; exact apk
      · rcases ht with q | q
        · exact h5 t (q ▸ e)
        · rw [q] at e; cases e; exact apk
      · rcases hr with q | q
        · exact h10 r (q ▸ e)
        · rw [q] at e; cases e; exact apl
      · rcases ht with q | q
        · exact h11 t (q ▸ e)
        · rw [q] at e; cases e; exact apl
theorem XM.gen {N' Z' tl' : Nat} {ro' to' ko' : Option Nat} {kp' : Option (Sta × Lw)} {fk' fp' : Int32} {tb' : Nat → Nat} (h : XM S L lp N Z K ro to ko tb tl fk fp kp f n z) (hn : n ≤ n') (hz : z ≤ z') (hN : N + (n' - n) = N') (hZ : Z + (z' - z) = Z') (hNC : N' ≤ CAP) (hZC : Z' ≤ SCAP)
    (hlow : ∀ x, 1 ≤ x → x < 49 → ¬ x = 30 → f' x = f x) (hrow : ∀ x, 49 ≤ x → x < n → RowC (f x) → f' x = f x) (hl0 : f' lp = f lp) (hl1 : f' (lp + 1) = f (lp + 1)) (hold : ∀ x, 1000000 ≤ x → f' x = f x) (hT : TpA f' 30 tl' tb')
    (h0 : f' 0 = cO 8 [.ref 1, .ref 12, .ref 16, .ref 20, .ref 22, .ref 24, .ref 28, .ref 30, .int (nI tl'), .int fk', .int fp', fO ro', fO to', fO ko']) (hB1 : BR f' n' lp ro') (hB2 : BT f' n' lp to') (hB3 : BK f' n' lp ro' to' ko' kp') (hB4 : ∀ r t, ro' = some r → to' = some t → ap2 r 5 t 5) : XM S L lp N' Z' K ro' to' ko' tb' tl' fk' fp' kp' f' n' z' ∧ RFX f f' := by
  obtain ⟨v1, ⟨m1, m2⟩, ⟨⟨a, t1⟩, ⟨wi, go, pa, t2⟩, st, t3⟩, ⟨w1, w2⟩, m3, ⟨b1, b2, b3⟩, b4⟩ := h
  obtain ⟨c1, c2, ⟨c3, c3', c3''⟩, c4, k1, k2, g1, g2, y1, y2, w3, w4, w5⟩ := w1
  refine ⟨⟨v1, ⟨m1.old hold, hT⟩, ⟨⟨a, t1.cong (hlow 28 (by omega) (by omega) (by omega))⟩, ⟨wi, go, pa, t2.cong (fun x a b => hlow x (by omega) (by omega) (by omega))⟩, st, by rw [hlow 29 (by omega) (by omega) (by omega)]; exact t3⟩, ⟨⟨c1.off (fun k a b => hlow k (by omega) (by omega) (by omega)), c2.cong hold, ⟨by omega, by omega, by omega⟩, c4.co w2 hl0 hl1 hn, k1.cong (hlow _ (by omega) (by omega) (by omega)) (hlow _ (by omega) (by omega) (by omega)), k2.cong (hlow _ (by omega) (by omega) (by omega)) (hlow _ (by omega) (by omega) (by omega)), g1, g2, y1.cong hn (hlow _ (by omega) (by omega) (by omega)) (hlow _ (by omega) (by omega) (by omega)) (hlow _ (by omega) (by omega) (by omega)) (hlow _ (by omega) (by omega) (by omega)) (fun i p hi hp => hrow p (y1.row hi hp).2.1 (y1.row hi hp).2.2 (y1.row hi hp).1), y2.cong hn (hlow _ (by omega) (by omega) (by omega)) (hlow _ (by omega) (by omega) (by omega)) (hlow _ (by omega) (by omega) (by omega)) (hlow _ (by omega) (by omega) (by omega)) (fun i p hi hp => hrow p (y2.row hi hp).2.1 (y2.row hi hp).2.2 (y2.row hi hp).1), w3, by omega, by omega⟩, w2.co hl0⟩, h0, ⟨hB1, hB2, hB3⟩, hB4⟩, fun x a b => hlow x (by omega) (by omega) (by omega), hold⟩
theorem XM.n49 (h : XM S L lp N Z K ro to ko tb tl fk fp kp f n z) : 49 ≤ n ∧ n ≤ N ∧ z ≤ Z ∧ N ≤ CAP ∧ Z ≤ SCAP := by
  obtain ⟨c1, c2, ⟨c3, c3', c3''⟩, c4, k1, k2, g1, g2, y1, y2, w3, w4, w5⟩ := h.2.2.2.1.1
  omega
theorem XM.lw (h : XM S L lp N Z K ro to ko tb tl fk fp kp f n z) : (lp = 10 ∨ 49 ≤ lp) ∧ lp + 1 < n ∧ ¬ RowC (f lp) ∧ ¬ RowC (f (lp + 1)) := by
  obtain ⟨w1, w2⟩ := h.2.2.2.1
  have la := w1.2.2.2.1
  exact ⟨la.at.1, la.sp w2⟩
/-- a reader is made -/
theorem XM.newR {zz : Nat} (h : XM S L lp N Z K none to ko tb tl fk fp kp f n z) (hN : N + 5 ≤ CAP) (hZ : Z + zz ≤ SCAP) {I kd pl vl st : Nat → Int32} (hR : RdC f' n I kd pl vl st) (hf : ∀ x, ¬ x = 0 → ¬ (n ≤ x ∧ x ≤ n + 4) → f' x = f x) (h0 : f' 0 = cO 8 [.ref 1, .ref 12, .ref 16, .ref 20, .ref 22, .ref 24, .ref 28, .ref 30, .int (nI tl), .int fk, .int fp, .ref n, fO to, fO ko]) : XM S L lp (N + 5) (Z + zz) K (some n) to ko tb tl fk fp kp f' (n + 5) (z + zz) ∧ RFX f f' := by
  obtain ⟨h49, hnN, hzZ, -, -⟩ := h.n49
  obtain ⟨l1, l2, -, -⟩ := h.lw
  have hCAP : CAP = 600000 := rfl
  obtain ⟨b1, b2, b3⟩ := h.2.2.2.2.2.1
  refine h.gen (by omega) (by omega) (by omega) (by omega) hN hZ (fun x a b c => hf x (by omega) (by omega)) (fun x a b c => hf x (by omega) (by omega)) (hf _ (by omega) (by omega)) (hf _ (by omega) (by omega)) (fun x a => hf x (by omega) (by omega)) (h.tp.eq (hf 30 (by omega) (by omega))) h0 (fun r e => ?_) (b2.keep (by omega) (fun t e => (b2 t e).2.1) (fun t e x a b => hf x (by have := (b2 t e).1; omega) (by have := (b2 t e).1; omega))) (b3.keep (b := n) (by omega) (Or.inr rfl) (Or.inl rfl) (Or.inl (by omega)) (fun x a _ b c => hf x (by omega) b) h49) (fun r t e1 e2 => ?_)
  · cases e
    exact ⟨by omega, Or.inr (by omega), I, kd, pl, vl, st, hR⟩
  · cases e1
    have := (b2 t e2).1
    exact Or.inr (by omega)
/-- the reader has read -/
theorem XM.redR {r tl' : Nat} {fk' fp' : Int32} (h : XM S L lp N Z K (some r) to ko tb tl fk fp kp f n z) {I kd pl vl st : Nat → Int32} (hR : RdC f' r I kd pl vl st) (hf : ∀ x, ¬ x = 0 → ¬ (r ≤ x ∧ x ≤ r + 4) → ¬ x = n → ¬ x = n + 1 → f' x = f x) (h0 : f' 0 = cO 8 [.ref 1, .ref 12, .ref 16, .ref 20, .ref 22, .ref 24, .ref 28, .ref 30, .int (nI tl'), .int fk', .int fp', .ref r, fO to, fO ko]) (htl : tl' ≤ tl) : XM S L lp N Z K (some r) to ko tb tl' fk' fp' kp f' n z ∧ RFX f f' := by
  obtain ⟨h49, hnN, hzZ, hNC, hZC⟩ := h.n49
  obtain ⟨l1, l2, -, -⟩ := h.lw
  have hCAP : CAP = 600000 := rfl
  obtain ⟨b1, b2, b3⟩ := h.2.2.2.2.2.1
  obtain ⟨r1, r2, I0, kd0, pl0, vl0, st0, r3⟩ := b1 r rfl
  have b4 := h.2.2.2.2.2.2 r
  unfold ap2 at r2
  refine h.gen (by omega) (by omega) (by omega) (by omega) hNC hZC (fun x a b c => hf x (by omega) (by omega) (by omega) (by omega)) (fun x a b c => hf x (by omega) (fun q => r3.row q.1 q.2 c) (by omega) (by omega)) (hf _ (by omega) (by omega) (by omega) (by omega)) (hf _ (by omega) (by omega) (by omega) (by omega)) (fun x a => hf x (by omega) (by omega) (by omega) (by omega)) ((h.tp.le htl).eq (hf 30 (by omega) (by omega) (by omega) (by omega))) h0 (fun r' e => ?_) (b2.keep (by omega) (fun t e => (b2 t e).2.1) (fun t e x a b => ?_)) (b3.keep (b := r) (by omega) (Or.inl rfl) (Or.inl rfl) (Or.inr (Or.inl ⟨rfl, rfl⟩)) (fun x a _ b c => hf x (by omega) b (by omega) (by omega)) r1.1) (fun r' t e1 e2 => h.2.2.2.2.2.2 r' t e1 e2)
  · cases e
    exact ⟨r1, r2, I, kd, pl, vl, st, hR⟩
  · have q1 := (b2 t e).1
    have q2 := b4 t rfl e
    unfold ap2 at q2
    exact hf x (by omega) (by omega) (by omega) (by omega)
end X8m
