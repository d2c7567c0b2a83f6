-- the class's law as it runs, segment by segment; the reader's memory
set_option maxRecDepth 100000
set_option maxHeartbeats 4000000
/-- product, sum, left, pay, truths -/
abbrev Rg : Type := Int32 × Int32 × Int32 × Int32 × Int64
def rg1 (F : Fa) (kd vl : Nat) (R : Rg) : Rg := match kd with
  | 0 => (stV F vl, R.2)
  | 1 => (R.1 * stV F vl, R.2)
  | 2 => (if stV F vl = 0 then 0 else R.1 / stV F vl, R.2)
  | 3 => (R.1, R.1, R.2.2)
  | 4 => (R.1, R.2.1 + R.1, R.2.2)
  | 5 => (R.1, R.2.1 - R.1, R.2.2)
  | 6 => (R.1, R.2.1, R.2.2.1, R.2.1, R.2.2.2.2)
  | 7 => (R.1, R.2.1, R.2.1, R.2.2.2)
  | k => (R.1, R.2.1, R.2.2.1, R.2.2.2.1, judL R.2.2.2.2 k R.2.2.1 R.2.1)
def rgS (kd vl : Nat → Nat) (F : Fa) : Nat → Nat → Rg → Rg
  | 0, _, R => R
  | n + 1, i, R => rgS kd vl F n (i + 1) (rg1 F (kd i) (vl i) R)
theorem rgS_add {kd vl : Nat → Nat} {F : Fa} : ∀ a b i R, rgS kd vl F (a + b) i R = rgS kd vl F b (i + a) (rgS kd vl F a i R)
  | 0, b, i, R => by rw [Nat.zero_add]; rfl
  | a + 1, b, i, R => by rw [show a + 1 + b = (a + b) + 1 by omega, rgS, rgS_add a b (i + 1), rgS, show i + 1 + a = i + (a + 1) by omega]
theorem rgS_cong {kd kd' vl vl' : Nat → Nat} {F : Fa} : ∀ n i R, (∀ j, i ≤ j → j < i + n → kd j = kd' j ∧ vl j = vl' j) → rgS kd vl F n i R = rgS kd' vl' F n i R
  | 0, _, _, _ => rfl
  | n + 1, i, R, h => by
    rw [rgS, rgS, (h i (by omega) (by omega)).1, (h i (by omega) (by omega)).2]
    exact rgS_cong n (i + 1) _ (fun j h1 h2 => h j (by omega) (by omega))
theorem lawRun_rgS {kd vl : Nat → Nat} {F : Fa} {n : Nat} : ∀ m i (R : Rg), (∀ j, i ≤ j → j < i + m → kd j < 14) → lawRun kd vl F (m + n) i R.1 R.2.1 R.2.2.1 R.2.2.2.1 R.2.2.2.2 = lawRun kd vl F n (i + m) (rgS kd vl F m i R).1 (rgS kd vl F m i R).2.1 (rgS kd vl F m i R).2.2.1 (rgS kd vl F m i R).2.2.2.1 (rgS kd vl F m i R).2.2.2.2
  | 0, i, R, _ => by rw [Nat.zero_add]; rfl
  | m + 1, i, R, h => by
    have hk := h i (by omega) (by omega)
    have ih := lawRun_rgS (kd := kd) (vl := vl) (F := F) (n := n) m (i + 1) (rg1 F (kd i) (vl i) R) (fun j h1 h2 => h j (by omega) (by omega))
    rw [rgS, show i + (m + 1) = i + 1 + m by omega, ← ih, show m + 1 + n = (m + n) + 1 by omega, lawRun]
    rcases (by omega : kd i = 0 ∨ kd i = 1 ∨ kd i = 2 ∨ kd i = 3 ∨ kd i = 4 ∨ kd i = 5 ∨ kd i = 6 ∨ kd i = 7 ∨ kd i = 8 ∨ kd i = 9 ∨ kd i = 10 ∨ kd i = 11 ∨ kd i = 12 ∨ kd i = 13) with e | e | e | e | e | e | e | e | e | e | e | e | e | e <;> rw [e] <;> rfl
/-- steps as they lie in a row -/
def kdO (st : Nat → Int32) (i : Nat) : Nat := (st i).toNatClampNeg / 65536
def vlO (st : Nat → Int32) (i : Nat) : Nat := (st i).toNatClampNeg % 65536
def enS (st : Nat → Int32) (i : Nat) : Prop := st i = nI (65536 * kdO st i + vlO st i) ∧ kdO st i < 16 ∧ vlO st i < 65536
theorem enS_of {st : Nat → Int32} {i a b : Nat} (h : st i = nI (65536 * a + b)) (ha : a < 16) (hb : b < 65536) : enS st i ∧ kdO st i = a ∧ vlO st i = b := by
  have hc : (st i).toNatClampNeg = 65536 * a + b := by rw [h, nI_clamp (by omega)]
  have e1 : kdO st i = a := by unfold kdO; rw [hc]; omega
  have e2 : vlO st i = b := by unfold vlO; rw [hc]; omega
  refine ⟨⟨by rw [e1, e2]; exact h, by omega, by omega⟩, e1, e2⟩
theorem enS_cong {st st' : Nat → Int32} {i : Nat} (h : enS st i) (e : st' i = st i) : enS st' i ∧ kdO st' i = kdO st i ∧ vlO st' i = vlO st i := by
  have e1 : kdO st' i = kdO st i := by unfold kdO; rw [e]
  have e2 : vlO st' i = vlO st i := by unfold vlO; rw [e]
  exact ⟨⟨by rw [e1, e2, e]; exact h.1, by rw [e1]; exact h.2.1, by rw [e2]; exact h.2.2⟩, e1, e2⟩
/-- the steps from c to c' -/
def seg (st : Nat → Int32) (c c' : Nat) : Prop := c ≤ c' ∧ ∀ i, c ≤ i → i < c' → enS st i ∧ kdO st i < 14
abbrev rS (st : Nat → Int32) (F : Fa) (c c' : Nat) (R : Rg) : Rg := rgS (kdO st) (vlO st) F (c' - c) c R
theorem seg.cong {st st' : Nat → Int32} {c c' : Nat} (h : seg st c c') (he : ∀ i, i < c' → st' i = st i) : seg st' c c' ∧ ∀ F R, rS st' F c c' R = rS st F c c' R := by
  refine ⟨⟨h.1, fun i h1 h2 => ?_⟩, fun F R => ?_⟩
  · obtain ⟨q1, q2, q3⟩ := enS_cong (h.2 i h1 h2).1 (he i h2)
    exact ⟨q1, by rw [q2]; exact (h.2 i h1 h2).2⟩
  · have := h.1
    refine rgS_cong _ _ _ fun j h1 h2 => ?_
    obtain ⟨q1, q2, q3⟩ := enS_cong (h.2 j h1 (by omega)).1 (he j (by omega))
    exact ⟨q2, q3⟩
theorem seg.join {st : Nat → Int32} {a b c : Nat} (h1 : seg st a b) (h2 : seg st b c) : seg st a c ∧ ∀ F R, rS st F a c R = rS st F b c (rS st F a b R) := by
  have l1 := h1.1
  have l2 := h2.1
  refine ⟨⟨by omega, fun i q1 q2 => ?_⟩, fun F R => ?_⟩
  · by_cases q : i < b
    · exact h1.2 i q1 q
    · exact h2.2 i (by omega) q2
  · show rgS _ _ F (c - a) a R = rgS _ _ F (c - b) b (rgS _ _ F (b - a) a R)
    rw [show c - a = (b - a) + (c - b) by omega, rgS_add, show a + (b - a) = b by omega]
theorem seg.nil (st : Nat → Int32) (c : Nat) : seg st c c ∧ ∀ F R, rS st F c c R = R := ⟨⟨Nat.le_refl _, fun i h1 h2 => by omega⟩, fun F R => by show rgS _ _ F (c - c) c R = R; rw [Nat.sub_self]; rfl⟩
/-- one step more -/
theorem seg.one {st : Nat → Int32} {c a b : Nat} (h : st c = nI (65536 * a + b)) (ha : a < 14) (hb : b < 65536) : seg st c (c + 1) ∧ ∀ F R, rS st F c (c + 1) R = rg1 F a b R := by
  obtain ⟨q1, q2, q3⟩ := enS_of h (by omega) hb
  refine ⟨⟨by omega, fun i h1 h2 => ?_⟩, fun F R => ?_⟩
  · have : i = c := by omega
    subst this; exact ⟨q1, by omega⟩
  · show rgS _ _ F (c + 1 - c) c R = _
    rw [show c + 1 - c = 1 by omega]
    show rg1 F (kdO st c) (vlO st c) R = _
    rw [q2, q3]
/-- the reader's memory: object at rp, behind it kinds, places, values, steps -/
def rO (rp : Nat) (I : Nat → Int32) : List Value := [.int (I 0), .int (I 1), .ref (rp + 1), .ref (rp + 2), .ref (rp + 3), .int (I 5), .int (I 6), .ref (rp + 4), .int (I 8), .int (I 9), .int (I 10)]
def rM (f0 : Mf) (rp : Nat) (I kd pl vl st : Nat → Int32) : Mf := fun x => if x = rp then cO 5 (rO rp I) else if x = rp + 1 then cI 401 kd else if x = rp + 2 then cI 401 pl else if x = rp + 3 then cI 401 vl else if x = rp + 4 then cI 800 st else f0 x
section RM
variable {f0 : Mf} {rp : Nat} {I kd pl vl st : Nat → Int32}
theorem rM_0 : rM f0 rp I kd pl vl st rp = cO 5 (rO rp I) := if_pos rfl
theorem rM_1 : rM f0 rp I kd pl vl st (rp + 1) = cI 401 kd := by unfold rM; rw [if_neg (by omega), if_pos rfl]
theorem rM_2 : rM f0 rp I kd pl vl st (rp + 2) = cI 401 pl := by unfold rM; rw [if_neg (by omega), if_neg (by omega), if_pos rfl]
theorem rM_3 : rM f0 rp I kd pl vl st (rp + 3) = cI 401 vl := by unfold rM; rw [if_neg (by omega), if_neg (by omega), if_neg (by omega), if_pos rfl]
theorem rM_4 : rM f0 rp I kd pl vl st (rp + 4) = cI 800 st := by unfold rM; rw [if_neg (by omega), if_neg (by omega), if_neg (by omega), if_neg (by omega), if_pos rfl]
theorem rM_o {x : Nat} (h : x < rp ∨ rp + 4 < x) : rM f0 rp I kd pl vl st x = f0 x := by unfold rM; rw [if_neg (by omega), if_neg (by omega), if_neg (by omega), if_neg (by omega), if_neg (by omega)]
theorem ru_0 {I' : Nat → Int32} : upC (rM f0 rp I kd pl vl st) rp (cO 5 (rO rp I')) = rM f0 rp I' kd pl vl st := by
  funext x; unfold upC rM
  by_cases e : x = rp
  · rw [if_pos e, if_pos e]
  · rw [if_neg e, if_neg e, if_neg e]
theorem ru_1 {a : Nat → Int32} : upC (rM f0 rp I kd pl vl st) (rp + 1) (cI 401 a) = rM f0 rp I a pl vl st := by
  funext x; unfold upC rM
  by_cases e : x = rp + 1
  · subst e; rw [if_pos rfl, if_neg (by omega), if_pos rfl]
  · simp only [if_neg e]
theorem ru_2 {a : Nat → Int32} : upC (rM f0 rp I kd pl vl st) (rp + 2) (cI 401 a) = rM f0 rp I kd a vl st := by
  funext x; unfold upC rM
  by_cases e : x = rp + 2
  · subst e; rw [if_pos rfl, if_neg (by omega), if_neg (by omega), if_pos rfl]
  · simp only [if_neg e]
theorem ru_3 {a : Nat → Int32} : upC (rM f0 rp I kd pl vl st) (rp + 3) (cI 401 a) = rM f0 rp I kd pl a st := by
  funext x; unfold upC rM
  by_cases e : x = rp + 3
  · subst e; rw [if_pos rfl, if_neg (by omega), if_neg (by omega), if_neg (by omega), if_pos rfl]
  · simp only [if_neg e]
theorem ru_4 {a : Nat → Int32} : upC (rM f0 rp I kd pl vl st) (rp + 4) (cI 800 a) = rM f0 rp I kd pl vl a := by
  funext x; unfold upC rM
  by_cases e : x = rp + 4
  · subst e; rw [if_pos rfl, if_neg (by omega), if_neg (by omega), if_neg (by omega), if_neg (by omega), if_pos rfl]
  · simp only [if_neg e]
theorem rO_len : (rO rp I).length = 11 := rfl
theorem rg_0 : nthV (rO rp I) 0 = .int (I 0) := rfl
theorem rs_0 {v : Int32} : (rO rp I).set 0 (.int v) = rO rp (upd I 0 v) := rfl
theorem rg_1 : nthV (rO rp I) 1 = .int (I 1) := rfl
theorem rs_1 {v : Int32} : (rO rp I).set 1 (.int v) = rO rp (upd I 1 v) := rfl
theorem rg_5 : nthV (rO rp I) 5 = .int (I 5) := rfl
theorem rs_5 {v : Int32} : (rO rp I).set 5 (.int v) = rO rp (upd I 5 v) := rfl
theorem rg_6 : nthV (rO rp I) 6 = .int (I 6) := rfl
theorem rs_6 {v : Int32} : (rO rp I).set 6 (.int v) = rO rp (upd I 6 v) := rfl
theorem rg_8 : nthV (rO rp I) 8 = .int (I 8) := rfl
theorem rs_8 {v : Int32} : (rO rp I).set 8 (.int v) = rO rp (upd I 8 v) := rfl
theorem rg_9 : nthV (rO rp I) 9 = .int (I 9) := rfl
theorem rs_9 {v : Int32} : (rO rp I).set 9 (.int v) = rO rp (upd I 9 v) := rfl
theorem rg_10 : nthV (rO rp I) 10 = .int (I 10) := rfl
theorem rs_10 {v : Int32} : (rO rp I).set 10 (.int v) = rO rp (upd I 10 v) := rfl
theorem rg_2 : nthV (rO rp I) 2 = .ref (rp + 1) := rfl
theorem rg_3 : nthV (rO rp I) 3 = .ref (rp + 2) := rfl
theorem rg_4 : nthV (rO rp I) 4 = .ref (rp + 3) := rfl
theorem rg_7 : nthV (rO rp I) 7 = .ref (rp + 4) := rfl
end RM
