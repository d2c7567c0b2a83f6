-- the two worlds side by side: the reference's cells are none of the class's; the start
set_option maxRecDepth 100000
set_option maxHeartbeats 4000000
section Lw2
variable {S : Sta} {L : Lw} {lp N Z K n z tl i : Nat} {ro to ko : Option Nat} {tb : Nat → Nat} {fk fp : Int32} {kp : Option (Sta × Lw)} {f f' f0 : Mf} {I W : Nat → Int32} {A : Nat → Nat → Int32} {s : Sc}
/-- the class's world does not see the reference's cells -/
theorem XM.off (h : XM S L lp N Z K ro to ko tb tl fk fp kp f n z) (hf : ∀ x, x < 31 ∨ 48 < x → f' x = f x) : XM S L lp N Z K ro to ko tb tl fk fp kp f' n z := by
  obtain ⟨l1, l2, -, -⟩ := h.lw
  obtain ⟨v1, ⟨m1, m2⟩, ⟨⟨a, t1⟩, ⟨wi, go, pa, t2⟩, st, t3⟩, ⟨w1, w2⟩, m3, ⟨b1, b2, b3⟩, b4⟩ := h
  obtain ⟨c1, c2, ⟨c3, c3', c3''⟩, c4, k1, k2, g1, g2, y1, y2, w3, w4, w5⟩ := w1
  have hl0 := hf lp (by omega)
  have hl1 := hf (lp + 1) (by omega)
  refine ⟨v1, ⟨m1.old (fun x hx => hf x (by omega)), m2.eq (hf 30 (by omega))⟩, ⟨⟨a, t1.cong (hf 28 (by omega))⟩, ⟨wi, go, pa, t2.cong (fun x a b => hf x (by omega))⟩, st, by rw [hf 29 (by omega)]; exact t3⟩, ⟨⟨c1.off (fun k a b => hf k (by omega)), c2.cong (fun x hx => hf x (by omega)), ⟨by omega, by omega, by omega⟩, c4.co w2 hl0 hl1 (Nat.le_refl n), k1.cong (hf _ (by omega)) (hf _ (by omega)), k2.cong (hf _ (by omega)) (hf _ (by omega)), g1, g2, y1.cong (Nat.le_refl n) (hf _ (by omega)) (hf _ (by omega)) (hf _ (by omega)) (hf _ (by omega)) (fun i p hi hp => hf p (Or.inr (by have := (y1.row hi hp).2.1; omega))), y2.cong (Nat.le_refl n) (hf _ (by omega)) (hf _ (by omega)) (hf _ (by omega)) (hf _ (by omega)) (fun i p hi hp => hf p (Or.inr (by have := (y2.row hi hp).2.1; omega))), w3, by omega, by omega⟩, w2.co hl0⟩, by rw [hf 0 (by omega)]; exact m3, ⟨?_, ?_, ?_⟩, b4⟩
  · exact b1.keep (Nat.le_refl n) (fun r e => (b1 r e).2.1) (fun r e x a b => hf x (by have := (b1 r e).1; omega))
  · exact b2.keep (Nat.le_refl n) (fun r e => (b2 r e).2.1) (fun r e x a b => hf x (by have := (b2 r e).1; omega))
  · exact b3.keep (b := n) (Nat.le_refl n) (Or.inl rfl) (Or.inl rfl) (Or.inl (Nat.le_refl n)) (fun x _ _ _ e => hf x (by omega)) (by omega)
theorem XW.off (h : XW S L tb tl fk fp kp i f n z) (hf : ∀ x, x < 31 ∨ 48 < x → f' x = f x) : XW S L tb tl fk fp kp i f' n z := by
  obtain ⟨lp, N, Z, K, ro, to, ko, h1, h2⟩ := h
  exact ⟨lp, N, Z, K, ro, to, ko, h1, h2.off hf⟩
/-- a memory whose reference's cells are as they were -/
theorem mM.eq (h : ∀ x, 31 ≤ x → x ≤ 48 → f' x = mM f0 I W A s x) : f' = mM f' I W A s := by
  funext x
  rcases (by omega : (31 ≤ x ∧ x ≤ 48) ∨ (x < 31 ∨ 48 < x)) with q | q
  · rw [h x q.1 q.2]
    unfold mM
    rcases (by omega : x = 31 ∨ x = 32 ∨ x = 33 ∨ x = 34 ∨ x = 35 ∨ x = 36 ∨ x = 37 ∨ x = 38 ∨ x = 39 ∨ x = 40 ∨ x = 41 ∨ x = 42 ∨ x = 43 ∨ x = 44 ∨ x = 45 ∨ x = 46 ∨ x = 47 ∨ x = 48) with e | e | e | e | e | e | e | e | e | e | e | e | e | e | e | e | e | e <;> (subst e; rfl)
  · rw [mM_o q]
theorem L0_ok : Lok L0 := fun _ _ _ _ => rfl
/-- a new object of the class is its world at the start -/
theorem XI.xw (h : XI f) (hO : OC f) (hA : StrA f) (hz : z ≤ 20000) : XW S0s L0 tb 0 0 (-1) none 0 f 49 z := by
  have hCAP : CAP = 600000 := rfl
  have hSCAP : SCAP = 7302249 := rfl
  obtain ⟨h0, hC, ⟨h10, st, h11⟩, ⟨y1, y2, y3, y4⟩, ⟨u1, u2, u3, u4⟩, ⟨k1, k2⟩, ⟨j1, j2⟩, ⟨d1, d2, d3, d4⟩, ⟨t1, t2⟩, h30⟩ := h
  have hn : nulG (fun _ => none) = 100 := by unfold nulG; decide +kernel
  have hw : ∀ w bs, (f w = cO 7 [.ref 1, .int bs, .ref (w + 1), .ref (w + 2), .ref (w + 3), .int 1]) → f (w + 1) = cQ 100 (fun _ => none) → f (w + 2) = cI 100 (fun _ => 0) → f (w + 3) = cI 100 (fun _ => 0) → WyR S0s bs w f 49 (fun _ => none) 1 := by
    intro w bs a1 a2 a3 a4
    refine ⟨fun _ => 0, fun _ => 0, a1, a2, a3, a4, by omega, fun i hi => ⟨⟨0, by omega, rfl⟩, fun _ => (by decide : ¬ (0 : Int32) = nI 1)⟩, fun i hi p hp => (by cases hp), fun i j p _ _ hp => (by cases hp)⟩
  have hV : Vk S0s := by
    have : S0s = clrS S0s 6 6 := by
      funext a b
      by_cases ha : a = 0
      · subst ha
        show (if b = 0 then 6 else if b = 1 then 6 else if b = 5 then -1 else 0) = (if b = 0 then 6 else if b = 1 then 6 else if b = 2 then (0 : Int32) else if b = 5 then -1 else 0)
        by_cases h0 : b = 0
        · rw [if_pos h0, if_pos h0]
        · by_cases h1 : b = 1
          · rw [if_neg h0, if_pos h1, if_neg h0, if_pos h1]
          · by_cases h2 : b = 2
            · subst h2; rfl
            · rw [if_neg h0, if_neg h1, if_neg h0, if_neg h1, if_neg h2]
      · unfold clrS S0s; rw [if_neg ha, if_neg ha]
    rw [this]
    exact Vk.clr (by decide)
  refine ⟨10, 249, z + 20000, 1, none, none, none, ⟨by omega, by omega, by omega⟩, ⟨hV, L0_ok⟩, ⟨hA, _, h30, by omega, fun j hj => absurd hj (Nat.not_lt_zero j)⟩, ⟨⟨fun _ => 0, t1⟩, ⟨_, _, _, d1, d2, d3, d4⟩, _, t2⟩, ⟨⟨hC.cr, hO, ⟨by omega, by omega, by omega⟩, ?_, ⟨⟨_, _, _, _, _, k1⟩, _, k2⟩, ⟨⟨_, _, _, _, _, j1⟩, _, j2⟩, _, _, hw 12 1 y1 y2 y3 y4, hw 16 0 u1 u2 u3 u4, fun i j p _ _ hp => (by cases hp), by rw [hn], by rw [hn]⟩, h10⟩, h0, ⟨fun r e => (by cases e), fun t e => (by cases e), trivial⟩, fun r t e => (by cases e)⟩
  exact ⟨11, 0, st, fun _ => 0, fun _ => 0, ⟨Or.inl rfl, by omega⟩, ⟨Or.inl rfl, by omega⟩, h10, h11, ⟨by omega, fun i hi => absurd hi (Nat.not_lt_zero i)⟩, fun F F' _ => rfl⟩
end Lw2
