-- THE LAW'S GRAMMAR, over tokens K (kinds) and V (values)
set_option maxRecDepth 100000
set_option maxHeartbeats 4000000
abbrev Fa : Type := Nat → Int32
abbrev EV : Type := Fa → Int32
abbrev BV : Type := Fa → Bool
/-- a fault (which, at which token), or the token behind and what was read -/
abbrev Res (α : Type) : Type := (Nat × Nat) ⊕ (Nat × α)
section Gram
variable (K V : Nat → Nat)
def pUn (k : Nat) : Res EV := if K k = 258 then .inr (k + 1, fun _ => nI (V k)) else if K k = 259 then .inr (k + 1, fun F => F (V k)) else .inl (1, k)
def pPa (k : Nat) : Res Nat := if K k = 258 then (if V k = 0 then .inl (2, k) else .inr (k + 1, V k)) else .inl (1, k)
def pPr : Nat → Nat → EV → Res EV
  | 0, k, pr => .inr (k, pr)
  | n + 1, k, pr => if K k = 42 then (match pUn K V (k + 1) with | .inl e => .inl e | .inr (k', u) => pPr n k' (fun F => pr F * u F))
    else if K k = 47 then (match pPa K V (k + 1) with | .inl e => .inl e | .inr (k', d) => pPr n k' (fun F => pr F / nI d)) else .inr (k, pr)
/-- a product -/
def pPd (k : Nat) : Res EV := match pUn K V k with | .inl e => .inl e | .inr (k', u) => pPr K V 400 k' u
def pSm : Nat → Nat → EV → Res EV
  | 0, k, a => .inr (k, a)
  | n + 1, k, a => if K k = 43 then (match pPd K V (k + 1) with | .inl e => .inl e | .inr (k', p) => pSm n k' (fun F => a F + p F))
    else if K k = 45 then (match pPd K V (k + 1) with | .inl e => .inl e | .inr (k', p) => pSm n k' (fun F => a F - p F)) else .inr (k, a)
def pE (k : Nat) : Res EV := match pPd K V k with | .inl e => .inl e | .inr (k', p) => pSm K V 400 k' p
def cmB (s : Nat) (a b : Int32) : Bool := if s = 60 then decide (a < b) else if s = 61 then decide (a = b) else decide (b < a)
def pCm (k : Nat) : Res BV := match pE K V k with
  | .inl e => .inl e
  | .inr (k', a) => if K k' = 60 ∨ K k' = 61 ∨ K k' = 62 then (match pE K V (k' + 1) with | .inl e => .inl e | .inr (k2, b) => .inr (k2, fun F => cmB (K k') (a F) (b F))) else .inl (1, k')
def pAl (c : Nat → Res BV) : Nat → Nat → BV → Res BV
  | 0, k, a => .inr (k, a)
  | n + 1, k, a => if K k = 263 then (match c (k + 1) with | .inl e => .inl e | .inr (k', b) => pAl c n k' (fun F => a F && b F)) else .inr (k, a)
def pAn (c : Nat → Res BV) (k : Nat) : Res BV := match c k with | .inl e => .inl e | .inr (k', b) => pAl K c 400 k' b
def pBl (c : Nat → Res BV) : Nat → Nat → BV → Res BV
  | 0, k, a => .inr (k, a)
  | n + 1, k, a => if K k = 262 then (match pAn K c (k + 1) with | .inl e => .inl e | .inr (k', b) => pBl c n k' (fun F => a F || b F)) else .inr (k, a)
def pBo (c : Nat → Res BV) (k : Nat) : Res BV := match pAn K c k with | .inl e => .inl e | .inr (k', b) => pBl K c 400 k' b
def pC : Nat → Nat → Res BV
  | 0, k => if K k = 40 ∨ K k = 264 then .inl (3, k) else pCm K V k
  | r + 1, k => if K k = 40 then (match pBo K (pC r) (k + 1) with | .inl e => .inl e | .inr (k', b) => if K k' = 41 then .inr (k' + 1, b) else .inl (1, k'))
    else if K k = 264 then (match pC r (k + 1) with | .inl e => .inl e | .inr (k', b) => .inr (k', fun F => !b F)) else pCm K V k
def pLn (k : Nat) : Res (EV × Option BV) := match pE K V (k + 1) with
  | .inl e => .inl e
  | .inr (k1, ev) => if K k1 = 261 then (match pBo K (pC K V 8) (k1 + 1) with | .inl e => .inl e | .inr (k2, b) => if K k2 = 59 then .inr (k2 + 1, (ev, some b)) else .inl (1, k2)) else if K k1 = 59 then .inr (k1 + 1, (ev, none)) else .inl (1, k1)
abbrev Lns : Type := List (EV × Option BV)
def pLw : Nat → Nat → Lns → Res Lns
  | 0, k, ls => .inr (k, ls)
  | n + 1, k, ls => if K k = 257 then .inr (k, ls) else if K k = 260 then (if ls.length = 16 then .inl (3, k) else match pLn K V k with | .inl e => .inl e | .inr (k', l) => pLw n k' (ls ++ [l])) else .inl (1, k)
end Gram
def cdT (c : Option BV) (F : Fa) : Bool := match c with | none => true | some b => b F
def lwV : Lns → Fa → Int32
  | [], _ => 0
  | (ev, c) :: ls, F => if cdT c F = true then ev F else lwV ls F
/-- the tokens: T of them, behind them the end -/
def TkS (K V : Nat → Nat) (T : Nat) : Prop := T ≤ 400 ∧ K T = 257 ∧ ∀ k, k < T → ¬ K k = 257 ∧ K k < 300 ∧ V k < 10000 ∧ (K k = 259 → V k < 8)
/-- the law asks for the evening somewhere -/
def evR (K V : Nat → Nat) (a b : Nat) : Prop := ∃ j, a ≤ j ∧ j < b ∧ K j = 259 ∧ V j = 7
theorem evR.join {K V : Nat → Nat} {a b c : Nat} (h1 : a ≤ b) (h2 : b ≤ c) : evR K V a c ↔ evR K V a b ∨ evR K V b c := by
  constructor
  · rintro ⟨j, q1, q2, q3⟩
    by_cases q : j < b
    · exact Or.inl ⟨j, q1, q, q3⟩
    · exact Or.inr ⟨j, by omega, q2, q3⟩
  · rintro (⟨j, q1, q2, q3⟩ | ⟨j, q1, q2, q3⟩)
    · exact ⟨j, q1, by omega, q3⟩
    · exact ⟨j, by omega, q2, q3⟩
theorem evR.one {K V : Nat → Nat} {k : Nat} (h : ¬ K k = 259) : ¬ evR K V k (k + 1) := by
  rintro ⟨j, q1, q2, q3, q4⟩
  have : j = k := by omega
  subst this; exact h q3
theorem evR.nil {K V : Nat → Nat} {k : Nat} : ¬ evR K V k k := by rintro ⟨j, q1, q2, -⟩; omega
/-- alike but for the evening -/
def eq7 (F F' : Fa) : Prop := ∀ j, j < 7 → F j = F' j
section Facts
variable {K V : Nat → Nat} {T : Nat}
theorem TkS.lt (h : TkS K V T) {k : Nat} (hk : k ≤ T) (hn : ¬ K k = 257) : k < T := by
  rcases Nat.lt_or_ge k T with q | q
  · exact q
  · have : k = T := by omega
    subst this; exact absurd h.2.1 hn
/-- what holds of what is read: the token behind is one of them, and it does not depend on the evening if that is not asked -/
def okE (K V : Nat → Nat) (T k : Nat) (r : Res EV) : Prop := ∀ k' e, r = .inr (k', e) → (k < k' ∧ k' ≤ T) ∧ (¬ evR K V k k' → ∀ F F', eq7 F F' → e F = e F')
theorem pUn_ok (h : TkS K V T) {k : Nat} (hk : k ≤ T) : okE K V T k (pUn K V k) := by
  intro k' e he
  unfold pUn at he
  split at he
  · next q =>
    cases he
    have := h.lt hk (by rw [q]; omega)
    exact ⟨by omega, fun _ F F' _ => rfl⟩
  · split at he
    · next q =>
      cases he
      have hl := h.lt hk (by rw [q]; omega)
      refine ⟨by omega, fun hn F F' hF => ?_⟩
      have := (h.2.2 k hl).2.2.2 q
      refine hF _ ?_
      by_cases q7 : V k = 7
      · exact absurd ⟨k, Nat.le_refl _, by omega, q, q7⟩ hn
      · omega
    · cases he
theorem pPr_ok (h : TkS K V T) : ∀ n k pr, k ≤ T → ∀ k' e, pPr K V n k pr = .inr (k', e) → (k ≤ k' ∧ k' ≤ T) ∧ (¬ evR K V k k' → (∀ F F', eq7 F F' → pr F = pr F') → ∀ F F', eq7 F F' → e F = e F')
  | 0, k, pr, hk, k', e, he => by cases he; exact ⟨by omega, fun _ hp => hp⟩
  | n + 1, k, pr, hk, k', e, he => by
    unfold pPr at he
    split at he
    · next q =>
      have hl := h.lt hk (by rw [q]; omega)
      split at he
      · cases he
      · next k1 u hu =>
        obtain ⟨a1, a2⟩ := pUn_ok h (k := k + 1) (by omega) k1 u hu
        obtain ⟨b1, b2⟩ := pPr_ok h n k1 _ a1.2 k' e he
        refine ⟨by omega, fun hn hp => b2 (fun z => hn ?_) (fun F F' hF => ?_)⟩
        · rw [evR.join (b := k1) (by omega) (by omega)]; exact Or.inr z
        · rw [hp F F' hF, a2 (fun z => hn (by rw [evR.join (b := k + 1) (by omega) (by omega), evR.join (a := k + 1) (b := k1) (by omega) (by omega)]; exact Or.inr (Or.inl z))) F F' hF]
    · split at he
      · next q =>
        have hl := h.lt hk (by rw [q]; omega)
        split at he
        · cases he
        · next k1 d hd =>
          have : k1 = k + 1 + 1 ∧ k + 1 < T := by
            unfold pPa at hd
            split at hd
            · next q2 =>
              split at hd
              · cases hd
              · cases hd; exact ⟨rfl, h.lt (by omega) (by rw [q2]; omega)⟩
            · cases hd
          obtain ⟨b1, b2⟩ := pPr_ok h n k1 _ (by omega) k' e he
          refine ⟨by omega, fun hn hp => b2 (fun z => hn ?_) (fun F F' hF => ?_)⟩
          · rw [evR.join (b := k1) (by omega) (by omega)]; exact Or.inr z
          · rw [hp F F' hF]
      · cases he; exact ⟨by omega, fun _ hp => hp⟩
theorem pPd_ok (h : TkS K V T) {k : Nat} (hk : k ≤ T) : okE K V T k (pPd K V k) := by
  intro k' e he
  unfold pPd at he
  split at he
  · cases he
  · next k1 u hu =>
    obtain ⟨a1, a2⟩ := pUn_ok h hk k1 u hu
    obtain ⟨b1, b2⟩ := pPr_ok h _ _ _ a1.2 k' e he
    exact ⟨by omega, fun hn => b2 (fun z => hn (by rw [evR.join (b := k1) (by omega) (by omega)]; exact Or.inr z)) (a2 (fun z => hn (by rw [evR.join (b := k1) (by omega) (by omega)]; exact Or.inl z)))⟩
theorem pSm_ok (h : TkS K V T) : ∀ n k a, k ≤ T → ∀ k' e, pSm K V n k a = .inr (k', e) → (k ≤ k' ∧ k' ≤ T) ∧ (¬ evR K V k k' → (∀ F F', eq7 F F' → a F = a F') → ∀ F F', eq7 F F' → e F = e F')
  | 0, k, a, hk, k', e, he => by cases he; exact ⟨by omega, fun _ hp => hp⟩
  | n + 1, k, a, hk, k', e, he => by
    unfold pSm at he
    split at he
    · next q =>
      have hl := h.lt hk (by rw [q]; omega)
      split at he
      · cases he
      · next k1 u hu =>
        obtain ⟨a1, a2⟩ := pPd_ok h (k := k + 1) (by omega) k1 u hu
        obtain ⟨b1, b2⟩ := pSm_ok h n k1 _ a1.2 k' e he
        refine ⟨by omega, fun hn hp => b2 (fun z => hn ?_) (fun F F' hF => ?_)⟩
        · rw [evR.join (b := k1) (by omega) (by omega)]; exact Or.inr z
        · rw [hp F F' hF, a2 (fun z => hn (by rw [evR.join (b := k + 1) (by omega) (by omega), evR.join (a := k + 1) (b := k1) (by omega) (by omega)]; exact Or.inr (Or.inl z))) F F' hF]
    · split at he
      · next q =>
        have hl := h.lt hk (by rw [q]; omega)
        split at he
        · cases he
        · next k1 u hu =>
          obtain ⟨a1, a2⟩ := pPd_ok h (k := k + 1) (by omega) k1 u hu
          obtain ⟨b1, b2⟩ := pSm_ok h n k1 _ a1.2 k' e he
          refine ⟨by omega, fun hn hp => b2 (fun z => hn ?_) (fun F F' hF => ?_)⟩
          · rw [evR.join (b := k1) (by omega) (by omega)]; exact Or.inr z
          · rw [hp F F' hF, a2 (fun z => hn (by rw [evR.join (b := k + 1) (by omega) (by omega), evR.join (a := k + 1) (b := k1) (by omega) (by omega)]; exact Or.inr (Or.inl z))) F F' hF]
      · cases he; exact ⟨by omega, fun _ hp => hp⟩
theorem pE_ok (h : TkS K V T) {k : Nat} (hk : k ≤ T) : okE K V T k (pE K V k) := by
  intro k' e he
  unfold pE at he
  split at he
  · cases he
  · next k1 u hu =>
    obtain ⟨a1, a2⟩ := pPd_ok h hk k1 u hu
    obtain ⟨b1, b2⟩ := pSm_ok h _ _ _ a1.2 k' e he
    exact ⟨by omega, fun hn => b2 (fun z => hn (by rw [evR.join (b := k1) (by omega) (by omega)]; exact Or.inr z)) (a2 (fun z => hn (by rw [evR.join (b := k1) (by omega) (by omega)]; exact Or.inl z)))⟩
def okB (K V : Nat → Nat) (T k : Nat) (r : Res BV) : Prop := ∀ k' e, r = .inr (k', e) → (k < k' ∧ k' ≤ T) ∧ (¬ evR K V k k' → ∀ F F', eq7 F F' → e F = e F')
theorem pCm_ok (h : TkS K V T) {k : Nat} (hk : k ≤ T) : okB K V T k (pCm K V k) := by
  intro k' e he
  unfold pCm at he
  split at he
  · cases he
  · next k1 a ha =>
    obtain ⟨a1, a2⟩ := pE_ok h hk k1 a ha
    split at he
    · next q =>
      have hl := h.lt a1.2 (by omega)
      split at he
      · cases he
      · next k2 b hb =>
        cases he
        obtain ⟨b1, b2⟩ := pE_ok h (k := k1 + 1) (by omega) k' b hb
        refine ⟨by omega, fun hn F F' hF => ?_⟩
        dsimp only
        rw [a2 (fun z => hn (by rw [evR.join (b := k1) (by omega) (by omega)]; exact Or.inl z)) F F' hF, b2 (fun z => hn (by rw [evR.join (b := k1 + 1) (by omega) (by omega)]; exact Or.inr z)) F F' hF]
    · cases he
theorem pAl_ok (h : TkS K V T) {c : Nat → Res BV} (hc : ∀ k, k ≤ T → okB K V T k (c k)) : ∀ n k a, k ≤ T → ∀ k' e, pAl K c n k a = .inr (k', e) → (k ≤ k' ∧ k' ≤ T) ∧ (¬ evR K V k k' → (∀ F F', eq7 F F' → a F = a F') → ∀ F F', eq7 F F' → e F = e F')
  | 0, k, a, hk, k', e, he => by cases he; exact ⟨by omega, fun _ hp => hp⟩
  | n + 1, k, a, hk, k', e, he => by
    unfold pAl at he
    split at he
    · next q =>
      have hl := h.lt hk (by rw [q]; omega)
      split at he
      · cases he
      · next k1 u hu =>
        obtain ⟨a1, a2⟩ := hc (k + 1) (by omega) k1 u hu
        obtain ⟨b1, b2⟩ := pAl_ok h hc n k1 _ a1.2 k' e he
        refine ⟨by omega, fun hn hp => b2 (fun z => hn ?_) (fun F F' hF => ?_)⟩
        · rw [evR.join (b := k1) (by omega) (by omega)]; exact Or.inr z
        · rw [hp F F' hF, a2 (fun z => hn (by rw [evR.join (b := k + 1) (by omega) (by omega), evR.join (a := k + 1) (b := k1) (by omega) (by omega)]; exact Or.inr (Or.inl z))) F F' hF]
    · cases he; exact ⟨by omega, fun _ hp => hp⟩
theorem pAn_ok (h : TkS K V T) {c : Nat → Res BV} (hc : ∀ k, k ≤ T → okB K V T k (c k)) {k : Nat} (hk : k ≤ T) : okB K V T k (pAn K c k) := by
  intro k' e he
  unfold pAn at he
  split at he
  · cases he
  · next k1 u hu =>
    obtain ⟨a1, a2⟩ := hc k hk k1 u hu
    obtain ⟨b1, b2⟩ := pAl_ok h hc _ _ _ a1.2 k' e he
    exact ⟨by omega, fun hn => b2 (fun z => hn (by rw [evR.join (b := k1) (by omega) (by omega)]; exact Or.inr z)) (a2 (fun z => hn (by rw [evR.join (b := k1) (by omega) (by omega)]; exact Or.inl z)))⟩
theorem pBl_ok (h : TkS K V T) {c : Nat → Res BV} (hc : ∀ k, k ≤ T → okB K V T k (c k)) : ∀ n k a, k ≤ T → ∀ k' e, pBl K c n k a = .inr (k', e) → (k ≤ k' ∧ k' ≤ T) ∧ (¬ evR K V k k' → (∀ F F', eq7 F F' → a F = a F') → ∀ F F', eq7 F F' → e F = e F')
  | 0, k, a, hk, k', e, he => by cases he; exact ⟨by omega, fun _ hp => hp⟩
  | n + 1, k, a, hk, k', e, he => by
    unfold pBl at he
    split at he
    · next q =>
      have hl := h.lt hk (by rw [q]; omega)
      split at he
      · cases he
      · next k1 u hu =>
        obtain ⟨a1, a2⟩ := pAn_ok h hc (k := k + 1) (by omega) k1 u hu
        obtain ⟨b1, b2⟩ := pBl_ok h hc n k1 _ a1.2 k' e he
        refine ⟨by omega, fun hn hp => b2 (fun z => hn ?_) (fun F F' hF => ?_)⟩
        · rw [evR.join (b := k1) (by omega) (by omega)]; exact Or.inr z
        · rw [hp F F' hF, a2 (fun z => hn (by rw [evR.join (b := k + 1) (by omega) (by omega), evR.join (a := k + 1) (b := k1) (by omega) (by omega)]; exact Or.inr (Or.inl z))) F F' hF]
    · cases he; exact ⟨by omega, fun _ hp => hp⟩
theorem pBo_ok (h : TkS K V T) {c : Nat → Res BV} (hc : ∀ k, k ≤ T → okB K V T k (c k)) {k : Nat} (hk : k ≤ T) : okB K V T k (pBo K c k) := by
  intro k' e he
  unfold pBo at he
  split at he
  · cases he
  · next k1 u hu =>
    obtain ⟨a1, a2⟩ := pAn_ok h hc hk k1 u hu
    obtain ⟨b1, b2⟩ := pBl_ok h hc _ _ _ a1.2 k' e he
    exact ⟨by omega, fun hn => b2 (fun z => hn (by rw [evR.join (b := k1) (by omega) (by omega)]; exact Or.inr z)) (a2 (fun z => hn (by rw [evR.join (b := k1) (by omega) (by omega)]; exact Or.inl z)))⟩
theorem pC_ok (h : TkS K V T) : ∀ r k, k ≤ T → okB K V T k (pC K V r k)
  | 0, k, hk => by
    intro k' e he
    unfold pC at he
    split at he
    · cases he
    · exact pCm_ok h hk k' e he
  | r + 1, k, hk => by
    intro k' e he
    unfold pC at he
    split at he
    · next q =>
      have hl := h.lt hk (by rw [q]; omega)
      split at he
      · cases he
      · next k1 b hb =>
        obtain ⟨a1, a2⟩ := pBo_ok h (pC_ok h r) (k := k + 1) (by omega) k1 b hb
        split at he
        · next q2 =>
          have hl2 := h.lt a1.2 (by rw [q2]; omega)
          cases he
          refine ⟨by omega, fun hn F F' hF => a2 (fun z => hn ?_) F F' hF⟩
          rw [evR.join (b := k + 1) (by omega) (by omega), evR.join (a := k + 1) (b := k1) (by omega) (by omega)]; exact Or.inr (Or.inl z)
        · cases he
    · split at he
      · next q =>
        have hl := h.lt hk (by rw [q]; omega)
        split at he
        · cases he
        · next k1 b hb =>
          obtain ⟨a1, a2⟩ := pC_ok h r (k + 1) (by omega) k1 b hb
          cases he
          refine ⟨by omega, fun hn F F' hF => ?_⟩
          dsimp only
          rw [a2 (fun z => hn (by rw [evR.join (b := k + 1) (by omega) (by omega)]; exact Or.inr z)) F F' hF]
      · exact pCm_ok h hk k' e he
def okL (K V : Nat → Nat) (T k : Nat) (r : Res (EV × Option BV)) : Prop := ∀ k' l, r = .inr (k', l) → (k < k' ∧ k' ≤ T) ∧ (¬ evR K V k k' → ∀ F F', eq7 F F' → l.1 F = l.1 F' ∧ cdT l.2 F = cdT l.2 F')
theorem pLn_ok (h : TkS K V T) {k : Nat} (hk : k < T) : okL K V T k (pLn K V k) := by
  intro k' l he
  unfold pLn at he
  split at he
  · cases he
  · next k1 ev hev =>
    obtain ⟨a1, a2⟩ := pE_ok h (k := k + 1) (by omega) k1 ev hev
    split at he
    · next q =>
      have hl := h.lt a1.2 (by rw [q]; omega)
      split at he
      · cases he
      · next k2 b hb =>
        obtain ⟨b1, b2⟩ := pBo_ok h (pC_ok h 8) (k := k1 + 1) (by omega) k2 b hb
        split at he
        · next q2 =>
          have hl2 := h.lt b1.2 (by rw [q2]; omega)
          cases he
          refine ⟨by omega, fun hn F F' hF => ⟨a2 (fun z => hn ?_) F F' hF, b2 (fun z => hn ?_) F F' hF⟩⟩
          · rw [evR.join (b := k + 1) (by omega) (by omega), evR.join (a := k + 1) (b := k1) (by omega) (by omega)]; exact Or.inr (Or.inl z)
          · rw [evR.join (b := k1 + 1) (by omega) (by omega), evR.join (a := k1 + 1) (b := k2) (by omega) (by omega)]; exact Or.inr (Or.inl z)
        · cases he
    · split at he
      · next q2 =>
        have hl2 := h.lt a1.2 (by rw [q2]; omega)
        cases he
        refine ⟨by omega, fun hn F F' hF => ⟨a2 (fun z => hn ?_) F F' hF, rfl⟩⟩
        rw [evR.join (b := k + 1) (by omega) (by omega), evR.join (a := k + 1) (b := k1) (by omega) (by omega)]; exact Or.inr (Or.inl z)
      · cases he
theorem lwV_7 : ∀ (ls : Lns) {F F' : Fa}, (∀ l, l ∈ ls → l.1 F = l.1 F' ∧ cdT l.2 F = cdT l.2 F') → lwV ls F = lwV ls F'
  | [], _, _, _ => rfl
  | (ev, c) :: ls, F, F', h => by
    have h1 : ev F = ev F' ∧ cdT c F = cdT c F' := h (ev, c) List.mem_cons_self
    rw [lwV, lwV, h1.2, h1.1, lwV_7 ls (fun l hl => h l (List.mem_cons_of_mem _ hl))]
theorem pLw_ok (h : TkS K V T) : ∀ n k ls, k ≤ T → ∀ k' ls', pLw K V n k ls = .inr (k', ls') → (k ≤ k' ∧ k' ≤ T) ∧ (¬ evR K V k k' → ∀ F F', eq7 F F' → (∀ l, l ∈ ls → l.1 F = l.1 F' ∧ cdT l.2 F = cdT l.2 F') → ∀ l, l ∈ ls' → l.1 F = l.1 F' ∧ cdT l.2 F = cdT l.2 F')
  | 0, k, ls, hk, k', ls', he => by cases he; exact ⟨by omega, fun _ _ _ _ hp => hp⟩
  | n + 1, k, ls, hk, k', ls', he => by
    unfold pLw at he
    split at he
    · cases he; exact ⟨by omega, fun _ _ _ _ hp => hp⟩
    · next q =>
      have hl := h.lt hk q
      split at he
      · split at he
        · cases he
        · split at he
          · cases he
          · next k1 l hll =>
            obtain ⟨a1, a2⟩ := pLn_ok h hl k1 l hll
            obtain ⟨b1, b2⟩ := pLw_ok h n k1 _ a1.2 k' ls' he
            refine ⟨by omega, fun hn F F' hF hp => b2 (fun z => hn (by rw [evR.join (b := k1) (by omega) (by omega)]; exact Or.inr z)) F F' hF (fun l' hl' => ?_)⟩
            rcases List.mem_append.mp hl' with q | q
            · exact hp l' q
            · rw [List.mem_singleton.mp q]
              exact a2 (fun z => hn (by rw [evR.join (b := k1) (by omega) (by omega)]; exact Or.inl z)) F F' hF
      · cases he
end Facts
