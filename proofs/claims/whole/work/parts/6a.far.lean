-- THE CLASS'S WORLD: all its cells; what calls leave as it was
set_option maxRecDepth 100000
set_option maxHeartbeats 4000000
def fO (o : Option Nat) : Value := match o with | none => .null | some p => .ref p
/-- two blocks lie apart -/
def ap2 (a la b lb : Nat) : Prop := a + la ≤ b ∨ b + lb ≤ a
/-- the reader's cells -/
def RdC (f : Mf) (r : Nat) (I kd pl vl st : Nat → Int32) : Prop := f r = cO 5 (rO r I) ∧ f (r + 1) = cI 401 kd ∧ f (r + 2) = cI 401 pl ∧ f (r + 3) = cI 401 vl ∧ f (r + 4) = cI 800 st
def BR (f : Mf) (n lp : Nat) (o : Option Nat) : Prop := ∀ r, o = some r → (49 ≤ r ∧ r + 5 ≤ n) ∧ ap2 r 5 lp 2 ∧ ∃ I kd pl vl st, RdC f r I kd pl vl st
def BT (f : Mf) (n lp : Nat) (o : Option Nat) : Prop := ∀ t, o = some t → (49 ≤ t ∧ t + 5 ≤ n) ∧ ap2 t 5 lp 2 ∧ ∃ an pl cn py bs, PL f t an pl cn py bs
def Vk (S : Sta) : Prop := VS S ∧ ∃ e, e ≤ 9999 ∧ S 0 8 = nI e
def BK (f : Mf) (n lp : Nat) (ro to : Option Nat) (o : Option Nat) (kp : Option (Sta × Lw)) : Prop := match o, kp with
  | none, none => True
  | some k, some (S, L) => (49 ≤ k ∧ k + 9 ≤ n) ∧ ap2 k 9 lp 2 ∧ (Vk S ∧ Lok L) ∧ (∀ r, ro = some r → ap2 r 5 k 9) ∧ (∀ t, to = some t → ap2 t 5 k 9) ∧ ∃ lq, CRq S lq k f ∧ LawA f n lq L ∧ LwP f lq L ∧ ap2 k 9 lq 2 ∧ (∀ r, ro = some r → ap2 r 5 lq 2) ∧ ∀ t, to = some t → ap2 t 5 lq 2
  | _, _ => False
def XM (S : Sta) (L : Lw) (lp N Z K : Nat) (ro to ko : Option Nat) (tb : Nat → Nat) (tl : Nat) (fk fp : Int32) (kp : Option (Sta × Lw)) (f : Mf) (n z : Nat) : Prop :=
  (Vk S ∧ Lok L) ∧ (StrA f ∧ TpA f 30 tl tb) ∧ ((∃ a, TV f a) ∧ (∃ wi go pa, DY f wi go pa) ∧ ∃ st, f 29 = cI 610 st) ∧ (CW S L lp N Z K f n z ∧ LwP f lp L) ∧
  f 0 = cO 8 [.ref 1, .ref 12, .ref 16, .ref 20, .ref 22, .ref 24, .ref 28, .ref 30, .int (nI tl), .int fk, .int fp, fO ro, fO to, fO ko] ∧
  (BR f n lp ro ∧ BT f n lp to ∧ BK f n lp ro to ko kp) ∧ ∀ r t, ro = some r → to = some t → ap2 r 5 t 5
def szX (N Z K i : Nat) : Prop := N ≤ 300 + 12 * i ∧ Z ≤ 60000 + 4000 * i ∧ K ≤ 1 + 2 * i
def XW (S : Sta) (L : Lw) (tb : Nat → Nat) (tl : Nat) (fk fp : Int32) (kp : Option (Sta × Lw)) (i : Nat) (f : Mf) (n z : Nat) : Prop := ∃ lp N Z K ro to ko, szX N Z K i ∧ XM S L lp N Z K ro to ko tb tl fk fp kp f n z
/-- what belongs to the reference, and what is old -/
def RFX (f f' : Mf) : Prop := (∀ x, 31 ≤ x → x ≤ 48 → f' x = f x) ∧ ∀ x, 1000000 ≤ x → f' x = f x
theorem RFX.refl (f : Mf) : RFX f f := ⟨fun _ _ _ => rfl, fun _ _ => rfl⟩
theorem RFX.trans {f f1 f2 : Mf} (h : RFX f f1) (h2 : RFX f1 f2) : RFX f f2 := ⟨fun x a b => (h2.1 x a b).trans (h.1 x a b), fun x a => (h2.2 x a).trans (h.2 x a)⟩
section XMs
variable {S S' : Sta} {L : Lw} {lp N Z K n n' z z' tl i : Nat} {ro to ko : Option Nat} {tb : Nat → Nat} {fk fp : Int32} {kp : Option (Sta × Lw)} {f f' : Mf}
theorem RdC.cong {r : Nat} {I kd pl vl st : Nat → Int32} (h : RdC f r I kd pl vl st) (hf : ∀ x, r ≤ x → x ≤ r + 4 → f' x = f x) : RdC f' r I kd pl vl st := by
  unfold RdC at *
  rw [hf r (by omega) (by omega), hf (r + 1) (by omega) (by omega), hf (r + 2) (by omega) (by omega), hf (r + 3) (by omega) (by omega), hf (r + 4) (by omega) (by omega)]
  exact h
theorem RdC.row {r x : Nat} {I kd pl vl st : Nat → Int32} (h : RdC f r I kd pl vl st) (h1 : r ≤ x) (h2 : x ≤ r + 4) : ¬ RowC (f x) := by
  obtain ⟨a0, a1, a2, a3, a4⟩ := h
  rcases (by omega : x = r ∨ x = r + 1 ∨ x = r + 2 ∨ x = r + 3 ∨ x = r + 4) with e | e | e | e | e <;> subst e
  · rw [a0]; exact not_row_o
  · rw [a1]; exact not_row_i
  · rw [a2]; exact not_row_i
  · rw [a3]; exact not_row_i
  · rw [a4]; exact not_row_i
theorem CRq.row {q x : Nat} (h : CRq S lp q f) (h1 : q ≤ x) (h2 : x ≤ q + 8) : ¬ RowC (f x) := by
  obtain ⟨a0, kd, ya, fa, mo, co, mv, tp, my, a1, -, a2, -, a3, -, a4, -, a5, -, a6, -, a7, -, a8, -⟩ := h
  rcases (by omega : x = q ∨ x = q + 1 ∨ x = q + 2 ∨ x = q + 3 ∨ x = q + 4 ∨ x = q + 5 ∨ x = q + 6 ∨ x = q + 7 ∨ x = q + 8) with e | e | e | e | e | e | e | e | e <;> subst e
  · rw [a0]; exact not_row_o
  · rw [a1]; exact not_row_i
  · rw [a2]; exact not_row_i
  · rw [a3]; exact not_row_i
  · rw [a4]; exact not_row_i
  · rw [a5]; exact not_row_i
  · rw [a6]; exact not_row_i
  · rw [a7]; exact not_row_i
  · rw [a8]; exact not_row_i
theorem StrA.old (h : StrA f) (hf : ∀ x, 1000000 ≤ x → f' x = f x) : StrA f' := fun j hj => by
  rw [hf _ (by omega), hf _ (by omega)]; exact h j hj
theorem TpA.eq (h : TpA f 30 tl tb) (hf : f' 30 = f 30) : TpA f' 30 tl tb := by unfold TpA; rw [hf]; exact h
theorem LawA.at {lq : Nat} (h : LawA f n lq L) : (lq = 10 ∨ 49 ≤ lq) ∧ lq < n := by
  obtain ⟨sp, m, st, kd, vl, h1, -⟩ := h; exact h1
/-- the blocks stay -/
theorem BR.frm {A : List Nat} (h : BR f n lp ro) (hF : FRM A f n f') (hn : n ≤ n') : BR f' n' lp ro := fun r hr => by
  obtain ⟨h1, h2, I, kd, pl, vl, st, h3⟩ := h r hr
  exact ⟨by omega, h2, I, kd, pl, vl, st, h3.cong (fun x a b => hF.2.1 x (by omega) (by omega) (h3.row a b))⟩
theorem BT.frm {A : List Nat} (h : BT f n lp to) (hF : FRM A f n f') (hn : n ≤ n') : BT f' n' lp to := fun t ht => by
  obtain ⟨h1, h2, an, pl, cn, py, bs, h3⟩ := h t ht
  exact ⟨by omega, h2, an, pl, cn, py, bs, h3.frm hF h1.1 h1.2⟩
theorem BK.frm {A : List Nat} (h : BK f n lp ro to ko kp) (hF : FRM A f n f') (hA : 10 ∉ A ∧ 11 ∉ A) (hn : n ≤ n') : BK f' n' lp ro to ko kp := by
  cases ko with
  | none => cases kp with
    | none => trivial
    | some q => exact h.elim
  | some k => cases kp with
    | none => exact h.elim
    | some q =>
      obtain ⟨S, L⟩ := q
      obtain ⟨h1, h2, h3, h4, h5, lq, h6, h7, h8, h9⟩ := h
      exact ⟨by omega, h2, h3, h4, h5, lq, h6.cong (fun x a b => hF.2.1 x (by omega) (by omega) (h6.row a b)), h7.frm hF hA hn, h8.frm hF hA.1 h7.at.1 h7.at.2, h9⟩
theorem XM.frm {A : List Nat} (h : XM S L lp N Z K ro to ko tb tl fk fp kp f n z) (hV : Vk S') (hW : CW S' L lp N Z K f' n' z') (hF : FRM A f n f') (hA : ∀ x, x ∈ A → (1 ≤ x ∧ x ≤ 9) ∨ (12 ≤ x ∧ x ≤ 29)) (hn : n ≤ n') (hT : ∃ a, TV f' a) (hD : ∃ wi go pa, DY f' wi go pa) (h29 : ∃ st, f' 29 = cI 610 st) : XM S' L lp N Z K ro to ko tb tl fk fp kp f' n' z' ∧ RFX f f' := by
  have no : ∀ x, ¬ ((1 ≤ x ∧ x ≤ 9) ∨ (12 ≤ x ∧ x ≤ 29)) → x ∉ A := fun x a b => a (hA x b)
  obtain ⟨⟨v1, v2⟩, ⟨m1, m2⟩, -, ⟨w1, w2⟩, m3, ⟨b1, b2, b3⟩, b4⟩ := h
  have la := w1.2.2.2.1
  refine ⟨⟨⟨hV, v2⟩, ⟨m1.old hF.2.2, m2.eq (hF.1 30 (by omega) (no 30 (by omega)))⟩, ⟨hT, hD, h29⟩, ⟨hW, w2.frm hF (no 10 (by omega)) la.at.1 la.at.2⟩, ?_, ⟨b1.frm hF hn, b2.frm hF hn, b3.frm hF ⟨no 10 (by omega), no 11 (by omega)⟩ hn⟩, b4⟩, fun x a b => hF.1 x (by omega) (no x (by omega)), hF.2.2⟩
  rw [hF.1 0 (by omega) (no 0 (by omega))]; exact m3
/-- where the thought and the days are left alone -/
theorem XM.frm2 {A : List Nat} (h : XM S L lp N Z K ro to ko tb tl fk fp kp f n z) (hV : Vk S') (hW : CW S' L lp N Z K f' n' z') (hF : FRM A f n f') (hA : ∀ x, x ∈ A → (1 ≤ x ∧ x ≤ 9) ∨ (12 ≤ x ∧ x ≤ 23)) (hn : n ≤ n') : XM S' L lp N Z K ro to ko tb tl fk fp kp f' n' z' ∧ RFX f f' := by
  have no : ∀ x, 24 ≤ x → x ∉ A := fun x a b => by have := hA x b; omega
  obtain ⟨⟨a, ha⟩, ⟨wi, go, pa, hw⟩, st, hs⟩ := h.2.2.1
  exact h.frm hV hW hF (fun x hx => by have := hA x hx; omega) hn ⟨a, ha.cong (hF.1 28 (by omega) (no 28 (by omega)))⟩ ⟨wi, go, pa, hw.cong (fun x a b => hF.1 x (by omega) (no x a))⟩ ⟨st, by rw [hF.1 29 (by omega) (no 29 (by omega))]; exact hs⟩
end XMs
