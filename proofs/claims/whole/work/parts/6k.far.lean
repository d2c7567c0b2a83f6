-- FarFromAnybody: another law, at new cells
set_option maxRecDepth 100000
set_option maxHeartbeats 4000000
section X8k
variable {G : Gam} {d : Nat} {S S' : Sta} {L L' : Lw} {lp N Z K n n' z z' tl i : Nat} {ro to ko : Option Nat} {tb : Nat → Nat} {fk fp : Int32} {kp : Option (Sta × Lw)} {f f' : Mf}
theorem XM.lawN {A : List Nat} {N' Z' K' : Nat} (h : XM S L lp N Z K ro to ko tb tl fk fp kp f n z) (hV : Vk S') (hLk : Lok L') (hW : CW S' L' n N' Z' K' f' n' z') (hP : LwP f' n L') (hF : FRM A f n f') (hA : ∀ x, x ∈ A → (1 ≤ x ∧ x ≤ 9) ∨ (12 ≤ x ∧ x ≤ 23)) (hn : n ≤ n') : XM S' L' n N' Z' K' ro to ko tb tl fk fp kp f' n' z' ∧ RFX f f' := by
  have no : ∀ x, ¬ ((1 ≤ x ∧ x ≤ 9) ∨ (12 ≤ x ∧ x ≤ 23)) → x ∉ A := fun x a b => a (hA x b)
  obtain ⟨⟨v1, v2⟩, ⟨m1, m2⟩, ⟨⟨a, ha⟩, ⟨wi, go, pa, hw⟩, st, hs⟩, ⟨w1, w2⟩, m3, ⟨b1, b2, b3⟩, b4⟩ := h
  have b1' : BR f' n' n ro := fun r hr => by
    obtain ⟨c1, c2, c3⟩ := b1.frm hF hn r hr
    have := (b1 r hr).1
    exact ⟨c1, Or.inl (by omega), c3⟩
  have b2' : BT f' n' n to := fun t ht => by
    obtain ⟨c1, c2, c3⟩ := b2.frm hF hn t ht
    have := (b2 t ht).1
    exact ⟨c1, Or.inl (by omega), c3⟩
  have b3' : BK f' n' n ro to ko kp := by
    have q := b3.frm hF ⟨no 10 (by omega), no 11 (by omega)⟩ hn
    cases ko with
    | none => cases kp with
      | none => trivial
      | some q2 => exact q.elim
    | some k => cases kp with
      | none => exact q.elim
      | some q2 =>
        obtain ⟨S2, L2⟩ := q2
        obtain ⟨h1, h2, h3⟩ := q
        have := b3.1
        exact ⟨h1, Or.inl (by omega), h3⟩
  refine ⟨⟨⟨hV, hLk⟩, ⟨m1.old hF.2.2, m2.eq (hF.1 30 (by omega) (no 30 (by omega)))⟩, ⟨⟨a, ha.cong (hF.1 28 (by omega) (no 28 (by omega)))⟩, ⟨wi, go, pa, hw.cong (fun x a b => hF.1 x (by omega) (no x (by omega)))⟩, st, by rw [hF.1 29 (by omega) (no 29 (by omega))]; exact hs⟩, ⟨hW, hP⟩, ?_, ⟨b1', b2', b3'⟩, b4⟩, fun x a b => hF.1 x (by omega) (no x (by omega)), hF.2.2⟩
  rw [hF.1 0 (by omega) (no 0 (by omega))]; exact m3
abbrev plP (w h : Int32) : Prop := (¬ w < 2 ∧ ¬ 10 < w) ∧ ¬ h < 2 ∧ h ≤ 10
theorem Vk.clr {w h : Int32} (hp : plP w h) : Vk (clrS S w h) := by
  have g2 : ∀ v : Int32, ¬ v < 2 → v ≤ 10 → ∃ j, 2 ≤ j ∧ j ≤ 10 ∧ v = nI j := fun v h1 h2 => by
    have t2 : (2 : Int32).toInt = 2 := rfl
    have t0 : (0 : Int32).toInt = 0 := rfl
    obtain ⟨j, hj, rfl⟩ := nI_of2 (M := 10) (n := 10) rfl (fun hx => h1 (by rw [Int32.lt_iff_toInt_lt] at hx ⊢; omega)) h2
    refine ⟨j, ?_, hj, rfl⟩
    rcases Nat.lt_or_ge j 2 with r | r
    · exact absurd ((nI_ltI (b := 2) (by omega) (by omega)).mpr r) h1
    · exact r
  obtain ⟨a, a1, a2, rfl⟩ := g2 w hp.1.1 (by
    have := hp.1.2
    rw [Int32.lt_iff_toInt_lt] at this; rw [Int32.le_iff_toInt_le]; omega)
  obtain ⟨b, b1, b2, rfl⟩ := g2 h hp.2.1 hp.2.2
  refine ⟨⟨⟨⟨⟨rfl, Nat.zero_le _⟩, ⟨rfl, Nat.zero_le _⟩, a, b, rfl, rfl, a1, a2, b1, b2⟩, Nat.zero_le _⟩, fun o ho => ?_, fun t ht => absurd ht (Nat.not_lt_zero t), fun t ht => absurd ht (Nat.not_lt_zero t), ⟨0, by omega, rfl⟩, Or.inl rfl, fun c hc => Or.inl rfl⟩, 0, by omega, rfl⟩
  have : o < 0 + 0 + 1 := ho
  have : o = 0 := by omega
  subst this
  exact Or.inl rfl
end X8k
