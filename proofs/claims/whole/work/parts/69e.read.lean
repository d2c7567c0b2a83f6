-- the law looks at eight facts and no other
set_option maxRecDepth 100000
set_option maxHeartbeats 4000000
def al8 {β : Type} (F F' : Fa) (r : Res (Fa → β)) : Prop := ∀ k' e, r = .inr (k', e) → e F = e F'
section L8
variable {K U : Nat → Nat} {F F' : Fa}
theorem al8.e {β : Type} {e : Nat × Nat} : al8 (β := β) F F' (.inl e) := fun _ _ h => by cases h
theorem al8.i {β : Type} {k : Nat} {e : Fa → β} (h : e F = e F') : al8 F F' (.inr (k, e)) := fun _ _ q => by cases q; exact h
theorem pUn8 (hF : ∀ j, j < 8 → F j = F' j) (hV : ∀ k, K k = 259 → U k < 8) (k : Nat) : al8 F F' (pUn K U k) := by
  unfold pUn
  split
  · exact al8.i rfl
  · split
    · next q => exact al8.i (hF _ (hV k q))
    · exact al8.e
theorem pPr8 (hF : ∀ j, j < 8 → F j = F' j) (hV : ∀ k, K k = 259 → U k < 8) : ∀ n k (pr : EV), pr F = pr F' → al8 F F' (pPr K U n k pr)
  | 0, k, pr, h => al8.i h
  | n + 1, k, pr, h => by
    unfold pPr
    split
    · have hu := pUn8 hF hV (k + 1)
      cases e : pUn K U (k + 1) with
      | inl e => exact al8.e
      | inr q => obtain ⟨k', u⟩ := q; exact pPr8 hF hV n k' _ (by rw [h, hu k' u e])
    · split
      · cases e : pPa K U (k + 1) with
        | inl e => exact al8.e
        | inr q => obtain ⟨k', u⟩ := q; exact pPr8 hF hV n k' _ (by rw [h])
      · exact al8.i h
theorem pPd8 (hF : ∀ j, j < 8 → F j = F' j) (hV : ∀ k, K k = 259 → U k < 8) (k : Nat) : al8 F F' (pPd K U k) := by
  unfold pPd
  have hu := pUn8 hF hV k
  cases e : pUn K U k with
  | inl e => exact al8.e
  | inr q => obtain ⟨k', u⟩ := q; exact pPr8 hF hV 400 k' _ (hu k' u e)
theorem pSm8 (hF : ∀ j, j < 8 → F j = F' j) (hV : ∀ k, K k = 259 → U k < 8) : ∀ n k (a : EV), a F = a F' → al8 F F' (pSm K U n k a)
  | 0, k, a, h => al8.i h
  | n + 1, k, a, h => by
    unfold pSm
    have hu := pPd8 hF hV (k + 1)
    split
    · cases e : pPd K U (k + 1) with
      | inl e => exact al8.e
      | inr q => obtain ⟨k', u⟩ := q; exact pSm8 hF hV n k' _ (by rw [h, hu k' u e])
    · split
      · cases e : pPd K U (k + 1) with
        | inl e => exact al8.e
        | inr q => obtain ⟨k', u⟩ := q; exact pSm8 hF hV n k' _ (by rw [h, hu k' u e])
      · exact al8.i h
theorem pE8 (hF : ∀ j, j < 8 → F j = F' j) (hV : ∀ k, K k = 259 → U k < 8) (k : Nat) : al8 F F' (pE K U k) := by
  unfold pE
  have hu := pPd8 hF hV k
  cases e : pPd K U k with
  | inl e => exact al8.e
  | inr q => obtain ⟨k', u⟩ := q; exact pSm8 hF hV 400 k' _ (hu k' u e)
theorem pCm8 (hF : ∀ j, j < 8 → F j = F' j) (hV : ∀ k, K k = 259 → U k < 8) (k : Nat) : al8 F F' (pCm K U k) := by
  unfold pCm
  have hu := pE8 hF hV k
  cases e : pE K U k with
  | inl e => exact al8.e
  | inr q =>
    obtain ⟨k', a⟩ := q
    dsimp only
    split
    · have hw := pE8 hF hV (k' + 1)
      cases e2 : pE K U (k' + 1) with
      | inl e => exact al8.e
      | inr q => obtain ⟨k2, b⟩ := q; exact al8.i (by rw [hu k' a e, hw k2 b e2])
    · exact al8.e
theorem pAl8 {c : Nat → Res BV} (hc : ∀ k, al8 F F' (c k)) : ∀ n k (a : BV), a F = a F' → al8 F F' (pAl K c n k a)
  | 0, k, a, h => al8.i h
  | n + 1, k, a, h => by
    unfold pAl
    split
    · cases e : c (k + 1) with
      | inl e => exact al8.e
      | inr q => obtain ⟨k', u⟩ := q; exact pAl8 hc n k' _ (by rw [h, hc (k + 1) k' u e])
    · exact al8.i h
theorem pAn8 {c : Nat → Res BV} (hc : ∀ k, al8 F F' (c k)) (k : Nat) : al8 F F' (pAn K c k) := by
  unfold pAn
  cases e : c k with
  | inl e => exact al8.e
  | inr q => obtain ⟨k', u⟩ := q; exact pAl8 hc 400 k' _ (hc k k' u e)
theorem pBl8 {c : Nat → Res BV} (hc : ∀ k, al8 F F' (c k)) : ∀ n k (a : BV), a F = a F' → al8 F F' (pBl K c n k a)
  | 0, k, a, h => al8.i h
  | n + 1, k, a, h => by
    unfold pBl
    split
    · have hu := pAn8 (K := K) hc (k + 1)
      cases e : pAn K c (k + 1) with
      | inl e => exact al8.e
      | inr q => obtain ⟨k', u⟩ := q; exact pBl8 hc n k' _ (by rw [h, hu k' u e])
    · exact al8.i h
theorem pBo8 {c : Nat → Res BV} (hc : ∀ k, al8 F F' (c k)) (k : Nat) : al8 F F' (pBo K c k) := by
  unfold pBo
  have hu := pAn8 (K := K) hc k
  cases e : pAn K c k with
  | inl e => exact al8.e
  | inr q => obtain ⟨k', u⟩ := q; exact pBl8 hc 400 k' _ (hu k' u e)
theorem pC8 (hF : ∀ j, j < 8 → F j = F' j) (hV : ∀ k, K k = 259 → U k < 8) : ∀ r k, al8 F F' (pC K U r k)
  | 0, k => by
    unfold pC
    split
    · exact al8.e
    · exact pCm8 hF hV k
  | r + 1, k => by
    unfold pC
    split
    · have hu := pBo8 (K := K) (pC8 hF hV r) (k + 1)
      cases e : pBo K (pC K U r) (k + 1) with
      | inl e => exact al8.e
      | inr q =>
        obtain ⟨k', u⟩ := q
        dsimp only
        split
        · exact al8.i (hu k' u e)
        · exact al8.e
    · split
      · have hu := pC8 hF hV r (k + 1)
        cases e : pC K U r (k + 1) with
        | inl e => exact al8.e
        | inr q => obtain ⟨k', u⟩ := q; exact al8.i (by rw [hu k' u e])
      · exact pCm8 hF hV k
theorem pLn8 (hF : ∀ j, j < 8 → F j = F' j) (hV : ∀ k, K k = 259 → U k < 8) (k : Nat) {k' : Nat} {l : EV × Option BV} (h : pLn K U k = .inr (k', l)) : l.1 F = l.1 F' ∧ cdT l.2 F = cdT l.2 F' := by
  unfold pLn at h
  have hu := pE8 hF hV (k + 1)
  cases e : pE K U (k + 1) with
  | inl e' => rw [e] at h; cases h
  | inr q =>
    obtain ⟨k1, ev⟩ := q
    rw [e] at h
    dsimp only at h
    split at h
    · have hw := pBo8 (K := K) (pC8 hF hV 8) (k1 + 1)
      cases e2 : pBo K (pC K U 8) (k1 + 1) with
      | inl e' => rw [e2] at h; cases h
      | inr q =>
        obtain ⟨k2, b⟩ := q
        rw [e2] at h
        dsimp only at h
        split at h
        · cases h; exact ⟨hu k1 _ e, hw k2 b e2⟩
        · cases h
    · split at h
      · cases h; exact ⟨hu k1 _ e, rfl⟩
      · cases h
theorem pLw8 (hF : ∀ j, j < 8 → F j = F' j) (hV : ∀ k, K k = 259 → U k < 8) : ∀ n k ls, (∀ l, l ∈ ls → l.1 F = l.1 F' ∧ cdT l.2 F = cdT l.2 F') → ∀ k' ls', pLw K U n k ls = .inr (k', ls') → ∀ l, l ∈ ls' → l.1 F = l.1 F' ∧ cdT l.2 F = cdT l.2 F'
  | 0, k, ls, hl, k', ls', he => by cases he; exact hl
  | n + 1, k, ls, hl, k', ls', he => by
    unfold pLw at he
    split at he
    · cases he; exact hl
    · split at he
      · split at he
        · cases he
        · split at he
          · cases he
          · next k1 l hll =>
            refine pLw8 hF hV n k1 _ (fun l' hl' => ?_) k' ls' he
            rcases List.mem_append.mp hl' with q | q
            · exact hl l' q
            · rw [List.mem_singleton.mp q]; exact pLn8 hF hV k hll
      · cases he
theorem tV8 {tb : Nat → Nat} {len : Nat} (hb : ∀ i, i < len → tb i < 256) : ∀ k, tK tb len k = 259 → tV tb len k < 8 := by
  intro k h
  unfold tK at h
  split at h
  · next q =>
    unfold tV
    rw [if_pos q]
    exact (tkK_in (hb _ q)).2.2 h
  · cases h
end L8
