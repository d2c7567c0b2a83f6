-- Placings, in numbers; blocks of later cells
set_option maxRecDepth 100000
set_option maxHeartbeats 4000000
theorem first1_min {p : Nat → Prop} [DecidablePred p] {m : Nat} (hm : m < 1000000) : ∀ (k i : Nat), i + k < 1000000 → first1 p k i = nI m → ∀ j, i ≤ j → j < m → ¬ p j
  | 0, i, _, h => absurd ((nI_me (a := m) (by omega)).mp h) id
  | k + 1, i, hk, h => by
    rw [first1] at h
    intro j h1 h2 hp
    by_cases q : p i
    · rw [if_pos q, nI_eq (by omega) (by omega)] at h; omega
    · rw [if_neg q] at h
      by_cases e : j = i
      · subst e; exact q hp
      · exact first1_min hm k (i + 1) (by omega) h j (by omega) h2 hp
theorem dst_chain {op : Nat → Prop} {aj : Nat → Nat → Prop} {a : Nat} (ha : a < 100) : ∀ m c, c < 100 → (op c ∨ c = a) → Dst op aj a c m → ∀ k, k ≤ m → ∃ u, u < 100 ∧ (op u ∨ u = a) ∧ Dst op aj a u k
  | 0, c, hc, ho, h, k, hk => ⟨c, hc, ho, by rw [show k = 0 by omega]; exact h⟩
  | m + 1, c, hc, ho, h, k, hk => by
    by_cases e : k = m + 1
    · exact ⟨c, hc, ho, by rw [e]; exact h⟩
    · obtain ⟨h1, h2⟩ := h
      rcases h1 with h1 | ⟨hoc, u, hu, hua, hr⟩
      · exact absurd h1 (h2 m (by omega))
      · have hou : op u ∨ u = a := by
          cases m with
          | zero => exact Or.inr hr
          | succ m =>
            have : ∀ m, rch op aj a m u → op u ∨ u = a := fun m => by
              induction m with
              | zero => exact fun h => Or.inr h
              | succ m ih => rintro (h | ⟨h, -⟩); exact ih h; exact Or.inl h
            exact this _ hr
        refine dst_chain ha m u hu hou ⟨hr, fun j hj hjr => ?_⟩ k (by omega)
        exact h2 (j + 1) (by omega) (Or.inr ⟨hoc, u, hu, hua, hjr⟩)
theorem way36 {S : Sta} {bs : Int32} {a c m : Nat} (hB : Bd S) (h36 : wdt S * hgt S ≤ 36) (ha : opS S bs a) (hc : c < 100) (h : wayS S bs a c = nI m) (hm : m < 100) : m < 36 ∧ (m = 0 → c = a) := by
  have hr : rch (opS S bs) aj4 a m c ∧ ∀ k, k < m → ¬ rch (opS S bs) aj4 a k c := by
    unfold wayS wayF at h
    refine ⟨?_, fun k hk => @first1_min _ (fun _ => Classical.propDecidable _) m (by omega) 100 0 (by omega) h k (Nat.zero_le _) hk⟩
    rcases @first1_in (fun m => rch (opS S bs) aj4 a m c) (fun _ => Classical.propDecidable _) 100 0 with q | ⟨m', -, h2, h3, h4⟩
    · rw [q] at h; exact absurd ((nI_me (a := m) (by omega)).mp h) id
    · rw [h4, nI_eq (by omega) (by omega)] at h; subst h; exact h3
  have hoc : opS S bs c ∨ c = a := by
    have : ∀ m, rch (opS S bs) aj4 a m c → opS S bs c ∨ c = a := fun m => by
      induction m with
      | zero => exact fun h => Or.inr h
      | succ m ih => rintro (h | ⟨h, -⟩); exact ih h; exact Or.inl h
    exact this m hr.1
  refine ⟨?_, fun e => by subst e; exact hr.1⟩
  have hch := dst_chain ha.1.1 m c hc hoc hr
  have hF : ∀ k, ∃ u, k ≤ m → u < 100 ∧ opS S bs u ∧ Dst (opS S bs) aj4 a u k := fun k => by
    by_cases hk : k ≤ m
    · obtain ⟨u, h1, h2, h3⟩ := hch k hk
      exact ⟨u, fun _ => ⟨h1, by rcases h2 with q | q; exact q; rw [q]; exact ha, h3⟩⟩
    · exact ⟨0, fun q => absurd q hk⟩
  obtain ⟨F, hF⟩ := Classical.axiomOfChoice hF
  have hpos : 0 < wdt S := by obtain ⟨-, -, w, -, e0, -, h1, h2, -⟩ := hB; unfold wdt; rw [e0, nI_clamp (by omega)]; omega
  have := holes (wdt S * hgt S) (m + 1) (fun k => F k / 10 * wdt S + F k % 10) (fun k hk => ?_) (fun i j hi hj he => ?_)
  · omega
  · obtain ⟨-, ⟨⟨-, h1, h2⟩, -⟩, -⟩ := hF k (by omega)
    show F k / 10 * wdt S + F k % 10 < wdt S * hgt S
    have : (F k / 10 + 1) * wdt S ≤ hgt S * wdt S := Nat.mul_le_mul_right _ (by omega)
    rw [Nat.add_mul, Nat.one_mul, Nat.mul_comm (hgt S)] at this
    omega
  · obtain ⟨-, ⟨⟨-, i1, i2⟩, -⟩, i3⟩ := hF i (by omega)
    obtain ⟨-, ⟨⟨-, j1, j2⟩, -⟩, j3⟩ := hF j (by omega)
    have he : F i / 10 * wdt S + F i % 10 = F j / 10 * wdt S + F j % 10 := he
    have e1 : F i % 10 = F j % 10 := by
      have q1 : (F i % 10 + F i / 10 * wdt S) % wdt S = F i % 10 := by rw [Nat.add_mul_mod_self_right, Nat.mod_eq_of_lt i1]
      have q2 : (F j % 10 + F j / 10 * wdt S) % wdt S = F j % 10 := by rw [Nat.add_mul_mod_self_right, Nat.mod_eq_of_lt j1]
      rw [← q1, ← q2, Nat.add_comm, he, Nat.add_comm]
    have e2 : F i / 10 = F j / 10 := by
      have : F i / 10 * wdt S = F j / 10 * wdt S := by omega
      exact Nat.eq_of_mul_eq_mul_right hpos this
    have e3 : F i = F j := by omega
    rw [e3] at i3
    rcases Nat.lt_trichotomy i j with q | q | q
    · exact absurd i3.1 (j3.2 i q)
    · exact q
    · exact absurd j3.1 (i3.2 j q)
/-- the pay on a yard with at most two others -/
noncomputable def dO (S : Sta) (c : Nat) : Option Nat → Nat
  | none => 99
  | some p => dN S 1 c p
noncomputable def nO (S : Sta) (c : Nat) : Option Nat → Nat
  | none => 0
  | some p => if dN S 1 c p ≤ 1 then 1 else 0
noncomputable def ppN (S : Sta) (L : Lw) (c : Nat) (x y : Option Nat) : Nat := payF S L c (min (dO S c x) (dO S c y)) (nO S c x + nO S c y) 0
def colF (col : Nat) : Nat := if col = 36 then 99 else if col = 0 then 1 else col
def colN (col : Nat) : Nat := if col = 0 then 2 else if col = 1 then 1 else 0
def colV (S : Sta) (L : Lw) (c col : Nat) : Nat := payF S L c (colF col) (colN col) 0
theorem ppN_le (S : Sta) (L : Lw) (c : Nat) (x y : Option Nat) : ppN S L c x y ≤ 9999 := payF_le _ _ _ _ _ _
-- BLOCKS of later cells
/-- the law's steps lie behind it -/
def LwP (f : Mf) (lp : Nat) (L : Lw) : Prop := f lp = cO 3 [.int L.1, .int L.2.1, .ref (lp + 1)]
theorem CW.hi {S : Sta} {L : Lw} {lp N Z K n z x : Nat} {f : Mf} {c : Cel} (h : CW S L lp N Z K f n z) (hl : LwP f lp L) (hx : 49 ≤ x) (hx2 : x < 1000000) (hr : ¬ RowC (f x)) (h1 : ¬ x = lp) (h2 : ¬ x = lp + 1) : CW S L lp N Z K (upC f x c) n z := by
  obtain ⟨c1, c2, c3, ⟨sp, m, st, kd, vl, ⟨l1, l2⟩, ⟨l3, l4⟩, l5, l6, l7, l8⟩, k1, k2, g1, g2, w1, w2, w3, w4, w5⟩ := h
  have es : sp = lp + 1 := by unfold LwP at hl; rw [hl] at l5; cases l5; rfl
  have hf : ∀ y, ¬ y = x → upC f x c y = f y := fun y hy => upC_ne _ _ hy
  refine ⟨c1.off (fun k _ b => hf k (by omega)), c2.cong (fun y hy => hf y (by omega)), c3, ⟨sp, m, st, kd, vl, ⟨l1, l2⟩, ⟨l3, l4⟩, by rw [hf _ (Ne.symm h1)]; exact l5, by rw [hf _ (by omega)]; exact l6, l7, l8⟩, k1.cong (hf _ (by omega)) (hf _ (by omega)), k2.cong (hf _ (by omega)) (hf _ (by omega)), g1, g2, w1.cong (Nat.le_refl _) (hf _ (by omega)) (hf _ (by omega)) (hf _ (by omega)) (hf _ (by omega)) (fun i p hi hp => hf p (fun e => hr (e ▸ (w1.row hi hp).1))), w2.cong (Nat.le_refl _) (hf _ (by omega)) (hf _ (by omega)) (hf _ (by omega)) (hf _ (by omega)) (fun i p hi hp => hf p (fun e => hr (e ▸ (w2.row hi hp).1))), w3, w4, w5⟩
/-- what a call leaves as it was, but for a block of later cells -/
def FRB (A : List Nat) (b l : Nat) (f : Mf) (n : Nat) (f' : Mf) : Prop := (∀ x, x < 49 → x ∉ A → f' x = f x) ∧ (∀ x, 49 ≤ x → x < n → ¬ RowC (f x) → ¬ (b ≤ x ∧ x < b + l) → f' x = f x) ∧ ∀ x, 1000000 ≤ x → f' x = f x
theorem FRB.refl (A : List Nat) (b l : Nat) (f : Mf) (n : Nat) : FRB A b l f n f := ⟨fun _ _ _ => rfl, fun _ _ _ _ _ => rfl, fun _ _ => rfl⟩
theorem FRB.trans {A : List Nat} {b l : Nat} {f f1 f2 : Mf} {n n1 : Nat} (h : FRB A b l f n f1) (hn : n ≤ n1) (h2 : FRB A b l f1 n1 f2) : FRB A b l f n f2 :=
  ⟨fun x a b => (h2.1 x a b).trans (h.1 x a b), fun x a b c d => (h2.2.1 x a (by omega) (by rw [h.2.1 x a b c d]; exact c) d).trans (h.2.1 x a b c d), fun x a => (h2.2.2 x a).trans (h.2.2 x a)⟩
theorem FRB.mono {A B : List Nat} {b l : Nat} {f f' : Mf} {n : Nat} (h : FRB A b l f n f') (hAB : ∀ x, x ∈ A → x ∈ B) : FRB B b l f n f' := ⟨fun x a b => h.1 x a (fun q => b (hAB x q)), h.2.1, h.2.2⟩
theorem FRB.up {A : List Nat} {b l : Nat} {f f' : Mf} {n k : Nat} {c : Cel} (h : FRB A b l f n f') (hk : k < 49) (hA : k ∈ A) : FRB A b l f n (upC f' k c) :=
  ⟨fun x a b => by rw [upC_ne _ _ (fun e => b (by rw [e]; exact hA))]; exact h.1 x a b, fun x a b c d => by rw [upC_ne _ _ (by omega)]; exact h.2.1 x a b c d, fun x a => by rw [upC_ne _ _ (by omega)]; exact h.2.2 x a⟩
theorem FRB.bl {A : List Nat} {b l : Nat} {f f' : Mf} {n k : Nat} {c : Cel} (h : FRB A b l f n f') (hb : 49 ≤ b) (hk : b ≤ k ∧ k < b + l) (hl : b + l ≤ 1000000) : FRB A b l f n (upC f' k c) :=
  ⟨fun x a b => by rw [upC_ne _ _ (by omega)]; exact h.1 x a b, fun x a b c d => by rw [upC_ne _ _ (fun e => d (by rw [e]; exact hk))]; exact h.2.1 x a b c d, fun x a => by rw [upC_ne _ _ (by omega)]; exact h.2.2 x a⟩
theorem FRM.b {A : List Nat} {f f' : Mf} {n : Nat} (h : FRM A f n f') (b l : Nat) : FRB A b l f n f' := ⟨h.1, fun x a b c _ => h.2.1 x a b c, h.2.2⟩
