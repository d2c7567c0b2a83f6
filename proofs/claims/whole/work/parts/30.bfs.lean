-- THE SHORTEST WAYS, by layers; what a search in breadth keeps
def rch (op : Nat → Prop) (aj : Nat → Nat → Prop) (a : Nat) : Nat → Nat → Prop
  | 0, c => c = a
  | m + 1, c => rch op aj a m c ∨ (op c ∧ ∃ u, u < 100 ∧ aj u c ∧ rch op aj a m u)
noncomputable def wayF (op : Nat → Prop) (aj : Nat → Nat → Prop) (a c : Nat) : Int32 := @first1 (fun m => rch op aj a m c) (fun _ => Classical.propDecidable _) 100 0
def Dst (op : Nat → Prop) (aj : Nat → Nat → Prop) (a c m : Nat) : Prop := rch op aj a m c ∧ ∀ k, k < m → ¬ rch op aj a k c
theorem first1_yes {p : Nat → Prop} [DecidablePred p] {m : Nat} (hp : p m) (hn : ∀ k, k < m → ¬ p k) : ∀ (k i : Nat), i ≤ m → m < i + k → first1 p k i = nI m
  | 0, i, h1, h2 => by omega
  | k + 1, i, h1, h2 => by
    rw [first1]
    by_cases e : i = m
    · subst e; rw [if_pos hp]
    · rw [if_neg (hn i (by omega))]; exact first1_yes hp hn k (i + 1) (by omega) (by omega)
theorem first1_no {p : Nat → Prop} [DecidablePred p] : ∀ (k i : Nat), (∀ m, i ≤ m → m < i + k → ¬ p m) → first1 p k i = -1
  | 0, i, _ => rfl
  | k + 1, i, h => by
    rw [first1, if_neg (h i (by omega) (by omega))]
    exact first1_no k (i + 1) (fun m h1 h2 => h m (by omega) (by omega))
theorem first1_in {p : Nat → Prop} [DecidablePred p] : ∀ (k i : Nat), first1 p k i = -1 ∨ ∃ m, i ≤ m ∧ m < i + k ∧ p m ∧ first1 p k i = nI m
  | 0, i => Or.inl rfl
  | k + 1, i => by
    rw [first1]
    by_cases h : p i
    · rw [if_pos h]; exact Or.inr ⟨i, by omega, by omega, h, rfl⟩
    · rw [if_neg h]
      rcases first1_in (p := p) k (i + 1) with q | ⟨m, q1, q2, q3⟩
      · exact Or.inl q
      · exact Or.inr ⟨m, by omega, by omega, q3⟩
/-- r the lengths so far, cq the queue, lv its lengths, kn how many are in it, i how many are done, P which sides of the i-th are done -/
def BI (op : Nat → Prop) (aj : Nat → Nat → Prop) (a : Nat) (r : Nat → Int32) (cq lv : Nat → Nat) (kn i : Nat) (P : Nat → Prop) : Prop :=
  (∀ j, j < kn → cq j < 100 ∧ r (cq j) = nI (lv j) ∧ lv j ≤ j ∧ Dst op aj a (cq j) (lv j)) ∧
  (∀ c, c < 100 → (∀ j, j < kn → cq j ≠ c) → r c = -1) ∧
  (∀ j k, j < kn → k < kn → cq j = cq k → j = k) ∧
  (∀ j k, j ≤ k → k < kn → lv j ≤ lv k) ∧
  (∀ j, j < kn → i < kn → lv j ≤ lv i + 1) ∧
  (∀ j, j < i → j < kn → ∀ v, v < 100 → op v → aj (cq j) v → ∃ k, k < kn ∧ cq k = v) ∧
  (i < kn → ∀ v, v < 100 → P v → op v → aj (cq i) v → ∃ k, k < kn ∧ cq k = v) ∧
  (0 < kn ∧ cq 0 = a) ∧ i ≤ kn
section BFS
variable {op : Nat → Prop} {aj : Nat → Nat → Prop} {a : Nat} {r : Nat → Int32} {cq lv : Nat → Nat} {kn i : Nat} {P : Nat → Prop}
theorem holes : ∀ (m n : Nat) (f : Nat → Nat), (∀ i, i < n → f i < m) → (∀ i j, i < n → j < n → f i = f j → i = j) → n ≤ m
  | 0, n, f, h, _ => by
    rcases Nat.eq_zero_or_pos n with e | e
    · omega
    · exact absurd (h 0 e) (Nat.not_lt_zero _)
  | m + 1, 0, f, _, _ => Nat.zero_le _
  | m + 1, n + 1, f, h, hj => by
    -- take the last one out; move the greatest value into its place
    have key : n ≤ m := by
      refine holes m n (fun k => if f k = m then f n else f k) (fun k hk => ?_) (fun j k hj' hk he => ?_)
      · show (if f k = m then f n else f k) < m
        have hk1 := h k (by omega)
        have hn1 := h n (by omega)
        by_cases e : f k = m
        · rw [if_pos e]
          have : f n ≠ m := fun q => by have := hj k n (by omega) (by omega) (e.trans q.symm); omega
          omega
        · rw [if_neg e]; omega
      · have he : (if f j = m then f n else f j) = (if f k = m then f n else f k) := he
        by_cases e1 : f j = m <;> by_cases e2 : f k = m
        · exact hj j k (by omega) (by omega) (e1.trans e2.symm)
        · rw [if_pos e1, if_neg e2] at he
          have := hj n k (by omega) (by omega) he; omega
        · rw [if_neg e1, if_pos e2] at he
          have := hj j n (by omega) (by omega) he; omega
        · rw [if_neg e1, if_neg e2] at he
          exact hj j k (by omega) (by omega) he
    omega
theorem BI.le (h : BI op aj a r cq lv kn i P) : kn ≤ 100 := holes 100 kn cq (fun j hj => (h.1 j hj).1) h.2.2.1
theorem BI.seen (h : BI op aj a r cq lv kn i P) {c : Nat} (hc : c < 100) : r c = -1 ↔ ∀ j, j < kn → cq j ≠ c := by
  refine ⟨fun q j hj e => ?_, h.2.1 c hc⟩
  have h1 := h.1 j hj
  rw [e, q] at h1
  have h2 := h.le
  exact ((nI_me (a := lv j) (by omega)).mp h1.2.1)
theorem BI.seenT (h : BI op aj a r cq lv kn i P) {c : Nat} (hc : c < 100) (q : ¬ r c = -1) : ∃ j, j < kn ∧ cq j = c := by
  rw [h.seen hc] at q
  exact Classical.byContradiction fun z => q (fun j hj e => z ⟨j, hj, e⟩)
theorem BI.full (h : BI op aj a r cq lv kn i P) (hi : i < kn) : ∀ k, k ≤ lv i → ∀ c, c < 100 → rch op aj a k c → ∃ j, j < kn ∧ cq j = c
  | 0, _, c, _, hr => ⟨0, h.2.2.2.2.2.2.2.1.1, by rw [h.2.2.2.2.2.2.2.1.2]; exact hr.symm⟩
  | k + 1, hk, c, hc, hr => by
    rcases hr with hr | ⟨ho, u, hu, ha, hr⟩
    · exact h.full hi k (by omega) c hc hr
    · obtain ⟨j, hj, e⟩ := h.full hi k (by omega) u hu hr
      obtain ⟨-, -, -, hD⟩ := h.1 j hj
      have h1 : lv j ≤ k := by
        rcases Nat.lt_or_ge k (lv j) with q | q
        · rw [e] at hD; exact absurd hr (hD.2 k q)
        · exact q
      have h2 : j < i := by
        rcases Nat.lt_or_ge j i with q | q
        · exact q
        · have := h.2.2.2.1 i j q hj; omega
      exact h.2.2.2.2.2.1 j h2 hj c hc ho (by rw [e]; exact ha)
theorem BI.visit (h : BI op aj a r cq lv kn i P) (hi : i < kn) {v : Nat} (hv : v < 100) (ho : op v) (ha : aj (cq i) v) (hn : r v = -1) :
    BI op aj a (upd r v (nI (lv i + 1))) (fun j => if j = kn then v else cq j) (fun j => if j = kn then lv i + 1 else lv j) (kn + 1) i (fun w => P w ∨ w = v) ∧ kn < 100 := by
  have hns := (h.seen hv).mp hn
  obtain ⟨hi1, hi2, hi3, hi4⟩ := h.1 i hi
  have hfull := h.full hi
  have hD : Dst op aj a v (lv i + 1) := ⟨Or.inr ⟨ho, cq i, hi1, ha, hi4.1⟩, fun k hk hr => by
    obtain ⟨j, hj, e⟩ := hfull k (by omega) v hv hr
    exact hns j hj e⟩
  have hB : BI op aj a (upd r v (nI (lv i + 1))) (fun j => if j = kn then v else cq j) (fun j => if j = kn then lv i + 1 else lv j) (kn + 1) i (fun w => P w ∨ w = v) := by
    obtain ⟨a1, a2, a3, a4, a5, a6, a7, a8, a9⟩ := h
    have old : ∀ {j : Nat}, j < kn → j ≠ kn := fun hj => by omega
    refine ⟨fun j hj => ?_, fun c hc hcn => ?_, fun j k hj hk he => ?_, fun j k hjk hk => ?_, fun j hj _ => ?_, fun j hj hjk w hw hop haj => ?_, fun _ w hw hP hop haj => ?_, ⟨by omega, ?_⟩, by omega⟩
    · by_cases e : j = kn
      · subst e
        simp only [if_true]
        exact ⟨hv, by simp [upd], by omega, hD⟩
      · have hj' : j < kn := by omega
        simp only [if_neg e]
        obtain ⟨b1, b2, b3, b4⟩ := a1 j hj'
        exact ⟨b1, by rw [upd, if_neg (hns j hj')]; exact b2, b3, b4⟩
    · have h1 := hcn kn (by omega)
      simp only [if_true] at h1
      rw [upd, if_neg (Ne.symm h1)]
      exact a2 c hc (fun j hj => by have := hcn j (by omega); simp only [if_neg (old hj)] at this; exact this)
    · dsimp only at he
      by_cases e1 : j = kn <;> by_cases e2 : k = kn
      · omega
      · subst e1; rw [if_pos rfl, if_neg e2] at he; exact absurd he.symm (hns k (by omega))
      · subst e2; rw [if_neg e1, if_pos rfl] at he; exact absurd he (hns j (by omega))
      · rw [if_neg e1, if_neg e2] at he; exact a3 j k (by omega) (by omega) he
    · by_cases e2 : k = kn
      · by_cases e1 : j = kn
        · simp only [if_pos e1, if_pos e2]; exact Nat.le_refl _
        · simp only [if_neg e1, if_pos e2]; exact a5 j (by omega) hi
      · have e1 : j ≠ kn := by omega
        simp only [if_neg e1, if_neg e2]
        exact a4 j k hjk (by omega)
    · have ei : i ≠ kn := by omega
      by_cases e1 : j = kn
      · simp only [if_pos e1, if_neg ei]; exact Nat.le_refl _
      · simp only [if_neg e1, if_neg ei]; exact a5 j (by omega) hi
    · have e1 : j ≠ kn := by omega
      simp only [if_neg e1] at haj
      obtain ⟨k, hk, e⟩ := a6 j hj (by omega) w hw hop haj
      exact ⟨k, by omega, by simp only [if_neg (old hk)]; exact e⟩
    · have ei : i ≠ kn := by omega
      simp only [if_neg ei] at haj
      rcases hP with hP | rfl
      · obtain ⟨k, hk, e⟩ := a7 hi w hw hP hop haj
        exact ⟨k, by omega, by simp only [if_neg (old hk)]; exact e⟩
      · exact ⟨kn, by omega, by simp only [if_true]⟩
    · show (if 0 = kn then v else cq 0) = a
      rw [if_neg (by omega)]; exact a8.2
  exact ⟨hB, hB.le⟩
theorem BI.skip (h : BI op aj a r cq lv kn i P) (hi : i < kn) {v : Nat} (hv : v < 100 → op v → aj (cq i) v → ¬ r v = -1) : BI op aj a r cq lv kn i (fun w => P w ∨ w = v) := by
  have hs := @BI.seenT _ _ _ _ _ _ _ _ _ h
  obtain ⟨a1, a2, a3, a4, a5, a6, a7, a8⟩ := h
  refine ⟨a1, a2, a3, a4, a5, a6, fun _ w hw hP hop haj => ?_, a8⟩
  rcases hP with hP | rfl
  · exact a7 hi w hw hP hop haj
  · exact hs hw (hv hw hop haj)
theorem BI.next (h : BI op aj a r cq lv kn i P) (hi : i < kn) (hall : ∀ v, v < 100 → op v → aj (cq i) v → P v) : BI op aj a r cq lv kn (i + 1) (fun _ => False) := by
  obtain ⟨a1, a2, a3, a4, a5, a6, a7, a8, a9⟩ := h
  refine ⟨a1, a2, a3, a4, fun j hj hi1 => ?_, fun j hj hjk v hv hop haj => ?_, fun _ v _ hP => hP.elim, a8, by omega⟩
  · have := a5 j hj hi
    have := a4 i (i + 1) (by omega) hi1
    omega
  · by_cases e : j = i
    · subst e; exact a7 hi v hv (hall v hv hop haj) hop haj
    · exact a6 j (by omega) hjk v hv hop haj
theorem BI.cong {P' : Nat → Prop} (h : BI op aj a r cq lv kn i P) (hP : ∀ v, P' v → P v) : BI op aj a r cq lv kn i P' := by
  obtain ⟨a1, a2, a3, a4, a5, a6, a7, a8⟩ := h
  exact ⟨a1, a2, a3, a4, a5, a6, fun hi v hv hp => a7 hi v hv (hP v hp), a8⟩
theorem BI.done (h : BI op aj a r cq lv kn kn P) {c : Nat} (hc : c < 100) : r c = wayF op aj a c := by
  have all : ∀ m c, c < 100 → rch op aj a m c → ∃ j, j < kn ∧ cq j = c := by
    intro m
    induction m with
    | zero => intro c hc hr; exact ⟨0, h.2.2.2.2.2.2.2.1.1, by rw [h.2.2.2.2.2.2.2.1.2]; exact hr.symm⟩
    | succ m ih =>
      intro c hc hr
      rcases hr with hr | ⟨ho, u, hu, ha, hr⟩
      · exact ih c hc hr
      · obtain ⟨j, hj, e⟩ := ih u hu hr
        exact h.2.2.2.2.2.1 j hj hj c hc ho (by rw [e]; exact ha)
  by_cases q : ∃ j, j < kn ∧ cq j = c
  · obtain ⟨j, hj, e⟩ := q
    obtain ⟨b1, b2, b3, b4⟩ := h.1 j hj
    rw [e] at b2 b4
    have := h.le
    rw [b2]
    unfold wayF
    rw [@first1_yes _ (fun _ => Classical.propDecidable _) (lv j) b4.1 b4.2 100 0 (by omega) (by omega)]
  · rw [h.2.1 c hc (fun j hj e => q ⟨j, hj, e⟩)]
    unfold wayF
    rw [@first1_no _ (fun _ => Classical.propDecidable _) 100 0 (fun m _ _ hr => q (all m c hc hr))]
theorem BI.start {r : Nat → Int32} (ha : a < 100) (h0 : r a = nI 0) (hn : ∀ c, c < 100 → c ≠ a → r c = -1) : BI op aj a r (fun _ => a) (fun _ => 0) 1 0 (fun _ => False) :=
  ⟨fun j _ => ⟨ha, h0, Nat.zero_le _, rfl, fun k hk => absurd hk (Nat.not_lt_zero k)⟩, fun c hc h => hn c hc (fun e => h 0 (by omega) e.symm), fun j k hj hk _ => by omega, fun _ _ _ _ => Nat.le_refl _, fun _ _ _ => Nat.zero_le _, fun j hj => absurd hj (Nat.not_lt_zero j), fun _ _ _ hP => hP.elim, ⟨by omega, rfl⟩, by omega⟩
theorem wayF_in (op : Nat → Prop) (aj : Nat → Nat → Prop) (a c : Nat) : wayF op aj a c = -1 ∨ ∃ m, m < 100 ∧ wayF op aj a c = nI m := by
  rcases @first1_in (fun m => rch op aj a m c) (fun _ => Classical.propDecidable _) 100 0 with h | ⟨m, -, h2, -, h3⟩
  · exact Or.inl h
  · exact Or.inr ⟨m, by omega, h3⟩
end BFS
