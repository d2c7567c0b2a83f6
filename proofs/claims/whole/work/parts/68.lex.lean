-- TOKENS out of bytes
set_option maxRecDepth 100000
set_option maxHeartbeats 4000000
abbrev isLt (c : Nat) : Prop := (97 ≤ c ∧ c ≤ 122) ∨ (65 ≤ c ∧ c ≤ 90)
abbrev isDg (c : Nat) : Prop := 48 ≤ c ∧ c ≤ 57
abbrev isWs (c : Nat) : Prop := c = 32 ∨ c = 10
def rn (p : Nat → Prop) [DecidablePred p] (tb : Nat → Nat) (len : Nat) : Nat → Nat → Nat
  | 0, i => i
  | n + 1, i => if i < len ∧ p (tb i) then rn p tb len n (i + 1) else i
section Rn
variable {tb : Nat → Nat} {len : Nat}
theorem rn_ge {p : Nat → Prop} [DecidablePred p] : ∀ n i, i ≤ rn p tb len n i
  | 0, i => Nat.le_refl _
  | n + 1, i => by
    rw [rn]; split
    · have := rn_ge (p := p) n (i + 1); omega
    · exact Nat.le_refl _
theorem rn_le {p : Nat → Prop} [DecidablePred p] : ∀ n i, i ≤ len → rn p tb len n i ≤ len
  | 0, i, h => h
  | n + 1, i, h => by
    rw [rn]; split
    · next q => exact rn_le n (i + 1) (by omega)
    · exact h
theorem rn_end {p : Nat → Prop} [DecidablePred p] : ∀ n i, len ≤ i + n → ¬ (rn p tb len n i < len ∧ p (tb (rn p tb len n i)))
  | 0, i, h => fun q => by have : i < len := q.1; omega
  | n + 1, i, h => by
    rw [rn]; split
    · exact rn_end n (i + 1) (by omega)
    · next q => exact q
theorem rn_all {p : Nat → Prop} [DecidablePred p] : ∀ n i j, i ≤ j → j < rn p tb len n i → p (tb j)
  | 0, i, j, h1, h2 => by have : j < i := h2; omega
  | n + 1, i, j, h1, h2 => by
    rw [rn] at h2
    split at h2
    · next q =>
      by_cases e : j = i
      · subst e; exact q.2
      · exact rn_all n (i + 1) j (by omega) h2
    · omega
/-- the end of a run is told by its properties -/
theorem rn_uniq {p : Nat → Prop} [DecidablePred p] {n i e : Nat} (hn : len ≤ i + n) (h1 : i ≤ e) (h2 : e ≤ len) (ha : ∀ j, i ≤ j → j < e → p (tb j)) (hE : ¬ (e < len ∧ p (tb e))) : rn p tb len n i = e := by
  have g1 := rn_ge (p := p) (tb := tb) (len := len) n i
  have g3 := rn_end (p := p) (tb := tb) (len := len) n i hn
  rcases Nat.lt_trichotomy (rn p tb len n i) e with q | q | q
  · exact absurd ⟨by omega, ha _ g1 q⟩ g3
  · exact q
  · have hle := rn_le (p := p) (tb := tb) n i (by omega : i ≤ len)
    exact absurd ⟨by omega, rn_all n i e h1 q⟩ hE
end Rn
def skp (tb : Nat → Nat) (len i : Nat) : Nat := rn isWs tb len 400 i
def tkE (tb : Nat → Nat) (len i : Nat) : Nat := if isLt (tb i) then rn isLt tb len 400 (i + 1) else if isDg (tb i) then rn isDg tb len 400 (i + 1) else i + 1
abbrev isW (tb : Nat → Nat) (w : List Nat) (i e : Nat) : Prop := e - i = w.length ∧ ∀ j, j < w.length → tb (i + j) = w.getD j 0
def wds : Nat → List Nat := fun j => match j with
  | 0 => [97, 110, 100] | 1 => [101, 100, 103, 101] | 2 => [101, 118, 101, 110, 105, 110, 103] | 3 => [102, 97, 114] | 4 => [107, 105, 110] | 5 => [110, 101, 97, 114] | 6 => [110, 111, 116] | 7 => [111, 114] | 8 => [112, 97, 121] | 9 => [119, 97, 116, 101, 114] | 10 => [119, 104, 101, 110] | 11 => [120] | _ => [121]
/-- two words are one -/
theorem isW_uniq {tb : Nat → Nat} {w w' : List Nat} {i e : Nat} (h : isW tb w i e) (h' : isW tb w' i e) : w = w' := by
  refine List.ext_getElem (by rw [← h.1, ← h'.1]) fun j h1 h2 => ?_
  have a := h.2 j h1
  have b := h'.2 j h2
  rw [a] at b
  rw [List.getD_eq_getElem?_getD, List.getD_eq_getElem?_getD, List.getElem?_eq_getElem h1, List.getElem?_eq_getElem h2] at b
  exact b
theorem wds_inj : ∀ a b : Fin 13, wds a.val = wds b.val → a = b := by decide +kernel
theorem isW_ne {tb : Nat → Nat} {a b i e : Nat} (ha : a < 13) (hb : b < 13) (hab : ¬ a = b) (h : isW tb (wds a) i e) : ¬ isW tb (wds b) i e := fun h' => hab (Fin.mk.inj (wds_inj ⟨a, ha⟩ ⟨b, hb⟩ (isW_uniq h h')))
def fcO (tb : Nat → Nat) (i e : Nat) : Option Nat := if isW tb (wds 3) i e then some 0 else if isW tb (wds 1) i e then some 1 else if isW tb (wds 9) i e then some 2 else if isW tb (wds 5) i e then some 3 else if isW tb (wds 4) i e then some 4 else if isW tb (wds 11) i e then some 5 else if isW tb (wds 12) i e then some 6 else if isW tb (wds 2) i e then some 7 else none
def kwK (tb : Nat → Nat) (i e : Nat) : Nat := if isW tb (wds 8) i e then 260 else if isW tb (wds 10) i e then 261 else if isW tb (wds 7) i e then 262 else if isW tb (wds 0) i e then 263 else if isW tb (wds 6) i e then 264 else 256
def wdK (tb : Nat → Nat) (i e : Nat) : Nat := match fcO tb i e with | some _ => 259 | none => kwK tb i e
def nuV (tb : Nat → Nat) (i : Nat) : Nat → Nat
  | 0 => 0
  | m + 1 => 10 * nuV tb i m + (tb (i + m) - 48)
def tkK (tb : Nat → Nat) (len i : Nat) : Nat := if isLt (tb i) then wdK tb i (tkE tb len i) else if isDg (tb i) then (if tkE tb len i - i ≤ 4 then 258 else 256) else tb i
def tkV (tb : Nat → Nat) (len i : Nat) : Nat := if isLt (tb i) then (match fcO tb i (tkE tb len i) with | some q => q | none => 0) else if isDg (tb i) then nuV tb i (min 4 (tkE tb len i - i)) else 0
def sqT (tb : Nat → Nat) (len : Nat) : Nat → Nat
  | 0 => skp tb len 0
  | k + 1 => if sqT tb len k < len then skp tb len (tkE tb len (sqT tb len k)) else sqT tb len k
def tK (tb : Nat → Nat) (len k : Nat) : Nat := if sqT tb len k < len then tkK tb len (sqT tb len k) else 257
def tV (tb : Nat → Nat) (len k : Nat) : Nat := if sqT tb len k < len then tkV tb len (sqT tb len k) else 0
section Lx
variable {tb : Nat → Nat} {len : Nat}
theorem fcO_lt {i e q : Nat} (h : fcO tb i e = some q) : q < 8 := by
  unfold fcO at h
  repeat' (split at h)
  all_goals (cases h; try omega)
theorem kwK_in (tb : Nat → Nat) (i e : Nat) : 256 ≤ kwK tb i e ∧ kwK tb i e < 265 ∧ ¬ kwK tb i e = 257 ∧ ¬ kwK tb i e = 258 ∧ ¬ kwK tb i e = 259 := by
  unfold kwK
  repeat' split
  all_goals omega
theorem nuV_lt {i : Nat} : ∀ m, (∀ j, j < m → isDg (tb (i + j))) → nuV tb i m < 10 ^ m
  | 0, _ => by show 0 < 10 ^ 0; decide
  | m + 1, h => by
    have ih := nuV_lt (i := i) m (fun j hj => h j (by omega))
    have := h m (by omega)
    rw [nuV, Nat.pow_succ]; omega
theorem tkE_in {i : Nat} (hi : i < len) : i < tkE tb len i ∧ tkE tb len i ≤ len := by
  unfold tkE
  split
  · exact ⟨Nat.lt_of_lt_of_le (Nat.lt_succ_self i) (rn_ge _ _), rn_le _ _ (by omega)⟩
  · split
    · exact ⟨Nat.lt_of_lt_of_le (Nat.lt_succ_self i) (rn_ge _ _), rn_le _ _ (by omega)⟩
    · omega
theorem tkE_lt {i : Nat} (h : isLt (tb i)) : ∀ j, i ≤ j → j < tkE tb len i → isLt (tb j) := by
  intro j h1 h2
  unfold tkE at h2
  rw [if_pos h] at h2
  by_cases e : j = i
  · subst e; exact h
  · exact rn_all _ _ j (by omega) h2
theorem tkE_dg {i : Nat} (h0 : ¬ isLt (tb i)) (h : isDg (tb i)) : ∀ j, i ≤ j → j < tkE tb len i → isDg (tb j) := by
  intro j h1 h2
  unfold tkE at h2
  rw [if_neg h0, if_pos h] at h2
  by_cases e : j = i
  · subst e; exact h
  · exact rn_all _ _ j (by omega) h2
theorem tkV_lt {i : Nat} : tkV tb len i < 10000 := by
  unfold tkV
  split
  · split
    · next q hq => have := fcO_lt hq; omega
    · omega
  · next h0 =>
    split
    · next h1 =>
      have : nuV tb i (min 4 (tkE tb len i - i)) < 10 ^ (min 4 (tkE tb len i - i)) := nuV_lt _ (fun j hj => tkE_dg (len := len) h0 h1 _ (by omega) (by omega))
      refine Nat.lt_of_lt_of_le this ?_
      exact Nat.le_trans (Nat.pow_le_pow_right (by decide) (Nat.min_le_left _ _)) (by decide)
    · omega
theorem tkK_in {i : Nat} (hb : tb i < 256) : tkK tb len i < 300 ∧ ¬ tkK tb len i = 257 ∧ (tkK tb len i = 259 → tkV tb len i < 8) := by
  unfold tkK tkV
  split
  · unfold wdK
    cases hf : fcO tb i (tkE tb len i) with
    | some q => exact ⟨by show 259 < 300; decide, by show ¬ 259 = 257; decide, fun _ => fcO_lt hf⟩
    | none =>
      have := kwK_in tb i (tkE tb len i)
      exact ⟨by dsimp only; omega, by dsimp only; omega, fun _ => by dsimp only; omega⟩
  · split
    · split
      · exact ⟨by decide, by decide, fun h => by cases h⟩
      · exact ⟨by decide, by decide, fun h => by cases h⟩
    · exact ⟨by omega, by omega, fun h => by omega⟩
theorem skp_in {i : Nat} (hi : i ≤ len) : i ≤ skp tb len i ∧ skp tb len i ≤ len := ⟨rn_ge _ _, rn_le _ _ hi⟩
theorem sqT_le : ∀ k, sqT tb len k ≤ len
  | 0 => (skp_in (Nat.zero_le _)).2
  | k + 1 => by
    have := sqT_le k
    rw [sqT]; split
    · next q => exact (skp_in (tkE_in q).2).2
    · exact this
/-- how many tokens: there is a number of them -/
theorem sqT_num : ∃ T, T ≤ len ∧ ¬ sqT tb len T < len ∧ ∀ k, k < T → sqT tb len k < len := by
  have key : ∀ m, (∃ T, T ≤ m ∧ ¬ sqT tb len T < len ∧ ∀ k, k < T → sqT tb len k < len) ∨ (m ≤ sqT tb len m ∧ ∀ k, k ≤ m → sqT tb len k < len) := by
    intro m
    induction m with
    | zero =>
      by_cases q : sqT tb len 0 < len
      · exact Or.inr ⟨Nat.zero_le _, fun k hk => by rw [show k = 0 by omega]; exact q⟩
      · exact Or.inl ⟨0, Nat.le_refl _, q, fun k hk => absurd hk (Nat.not_lt_zero k)⟩
    | succ m ih =>
      rcases ih with ⟨T, h1, h2, h3⟩ | ⟨h1, h2⟩
      · exact Or.inl ⟨T, by omega, h2, h3⟩
      · by_cases q : sqT tb len (m + 1) < len
        · refine Or.inr ⟨?_, fun k hk => ?_⟩
          · have hm := h2 m (Nat.le_refl _)
            rw [sqT, if_pos hm]
            have a := tkE_in (tb := tb) hm
            have b := skp_in (tb := tb) a.2
            omega
          · by_cases e : k = m + 1
            · rw [e]; exact q
            · exact h2 k (by omega)
        · exact Or.inl ⟨m + 1, Nat.le_refl _, q, fun k hk => h2 k (by omega)⟩
  rcases key len with h | ⟨h1, h2⟩
  · exact h
  · have := h2 len (Nat.le_refl _); omega
theorem tkS_lex (hl : len ≤ 400) (hb : ∀ i, i < len → tb i < 256) {T : Nat} (h1 : T ≤ len) (h2 : ¬ sqT tb len T < len) (h3 : ∀ k, k < T → sqT tb len k < len) : TkS (tK tb len) (tV tb len) T := by
  refine ⟨by omega, if_neg h2, fun k hk => ?_⟩
  have q := h3 k hk
  unfold tK tV
  rw [if_pos q, if_pos q]
  obtain ⟨a, b, c⟩ := tkK_in (tb := tb) (len := len) (hb _ q)
  exact ⟨b, a, tkV_lt, c⟩
theorem skp_ws {i : Nat} (hi : i < len) (hl : len ≤ 400) (h : isWs (tb i)) : skp tb len i = skp tb len (i + 1) := by
  have a := skp_in (tb := tb) (len := len) (i := i + 1) (by omega)
  refine rn_uniq (by omega) (by omega) a.2 (fun j h1 h2 => ?_) (rn_end _ _ (by omega))
  by_cases e : j = i
  · subst e; exact h
  · exact rn_all 400 (i + 1) j (by omega) h2
theorem skp_no {i : Nat} (h : ¬ (i < len ∧ isWs (tb i))) : skp tb len i = i := by
  unfold skp; rw [rn, if_neg h]
end Lx
