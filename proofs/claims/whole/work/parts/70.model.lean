-- THE REFERENCE'S MEMORY in a normal form, and conditions with small methods run through
set_option maxRecDepth 100000
set_option maxHeartbeats 4000000
abbrev Orc : Type := Nat → List Value → Nat → Nat → Mf → Po → Prop
def stpC (G : Gam) (X : Fx) (pv : List Nat) (C : Orc) (k : Kt) (ins : Instr) (a b : Nat) (c : Int32) (q : Nat) (pc : Nat) (ls st : List Value) (n z : Nat) (f : Mf) : Prop := match ins with
  | .invokevirtual idx => if a ∈ pv then popA q [] st (fun As s => match s with | .ref r :: s => catS s ≤ 8 ∧ 1 ≤ X.d ∧ (match f r with | .inr (.inr (ci, fs)) => ci = b ∧ C a (.ref r :: As) n z f (fun v n' z' f' => k (pc + 3) ls (v.toList ++ s) n' z' f') | _ => False) | _ => False) else stp G X k (.invokevirtual idx) a b c q pc ls st n z f
  | .invokestatic idx => if a ∈ pv then popA q [] st (fun As s => catS s ≤ 8 ∧ 1 ≤ X.d ∧ C a As n z f (fun v n' z' f' => k (pc + 3) ls (v.toList ++ s) n' z' f')) else stp G X k (.invokestatic idx) a b c q pc ls st n z f
  | ins => stp G X k ins a b c q pc ls st n z f
def OrcOk (G : Gam) (d : Nat) (pv : List Nat) (C : Orc) : Prop := (∀ i, i ∈ pv → i < 900) ∧ ∀ i av n z f K, i ∈ pv → C i av n z f K → Tr G d i av n z f K
theorem stpC_stp {G : Gam} {X : Fx} {pv : List Nat} {C : Orc} (hC : OrcOk G (X.d - 1) pv C) {k : Kt} {ins : Instr} {a b : Nat} {c : Int32} {q pc : Nat} {ls st : List Value} {n z : Nat} {f : Mf} (h : stpC G X pv C k ins a b c q pc ls st n z f) : stp G X k ins a b c q pc ls st n z f := by
  unfold stpC at h
  split at h
  · next idx =>
    split at h
    · next ha =>
      have h9 := hC.1 _ ha
      simp only [stp]
      split
      · omega
      · obtain ⟨As, s, rfl, h2, h⟩ := popA_spec _ _ _ _ h
        have key : ∀ (m : Nat) (As acc s : List Value) (P : List Value → List Value → Prop), As.length = m → P (As ++ acc) s → popA m acc (As.reverse ++ s) P := by
          intro m
          induction m with
          | zero => intro As acc s P hl hp; have : As = [] := List.length_eq_zero_iff.mp hl; subst this; exact hp
          | succ m ih =>
            intro As acc s P hl hp
            obtain ⟨Bs, v, rfl⟩ : ∃ Bs v, As = Bs ++ [v] := ⟨As.dropLast, As.getLast (by intro e; subst e; cases hl), (List.dropLast_concat_getLast _).symm⟩
            rw [List.reverse_append]
            show popA m (v :: acc) (Bs.reverse ++ s) P
            exact ih Bs (v :: acc) s P (by simpa using hl) (by simpa using hp)
        refine key q As [] s _ h2 ?_
        try dsimp only at h ⊢
        split at h
        · obtain ⟨h3, h4, h⟩ := h
          refine ⟨h3, h4, ?_⟩
          split at h
          · next ci fs heq =>
            obtain ⟨h5, h⟩ := h
            simp only [heq]
            exact ⟨h5, _, hC.2 _ _ _ _ _ _ ha h, fun _ _ _ _ h => h⟩
          · exact h.elim
        · exact h.elim
    · exact h
  · next idx =>
    split at h
    · next ha =>
      have h9 := hC.1 _ ha
      simp only [stp]
      split
      · omega
      · omega
      · omega
      · omega
      · obtain ⟨As, s, rfl, h2, h⟩ := popA_spec _ _ _ _ h
        have key : ∀ (m : Nat) (As acc s : List Value) (P : List Value → List Value → Prop), As.length = m → P (As ++ acc) s → popA m acc (As.reverse ++ s) P := by
          intro m
          induction m with
          | zero => intro As acc s P hl hp; have : As = [] := List.length_eq_zero_iff.mp hl; subst this; exact hp
          | succ m ih =>
            intro As acc s P hl hp
            obtain ⟨Bs, v, rfl⟩ : ∃ Bs v, As = Bs ++ [v] := ⟨As.dropLast, As.getLast (by intro e; subst e; cases hl), (List.dropLast_concat_getLast _).symm⟩
            rw [List.reverse_append]
            show popA m (v :: acc) (Bs.reverse ++ s) P
            exact ih Bs (v :: acc) s P (by simpa using hl) (by simpa using hp)
        refine key q As [] s _ h2 ?_
        try dsimp only at h ⊢
        obtain ⟨h3, h4, h⟩ := h

        exact ⟨h3, h4, _, hC.2 _ _ _ _ _ _ ha h, fun _ _ _ _ h => h⟩
    · exact h
  · exact h
def wpC (G : Gam) (X : Fx) (pv : List Nat) (C : Orc) (cd : Cd) (hd : List Nat) : Nat → Kt
  | 0, pc, ls, st, n, z, f => V G X pc ls st n z f
  | k + 1, pc, ls, st, n, z, f => match fe cd pc with
    | some (ins, _, a, b, c, q) => stpC G X pv C (fun pc ls st n z f => if pc ∈ hd then V G X pc ls st n z f else wpC G X pv C cd hd k pc ls st n z f) ins a b c q pc ls st n z f
    | none => False
theorem wpC_sound {G : Gam} {X : Fx} {pv : List Nat} {C : Orc} {cd : Cd} {hd : List Nat} (hC : OrcOk G (X.d - 1) pv C) (hc : okC X.i cd) : ∀ (k : Nat) (pc : Nat) (ls st : List Value) (n z : Nat) (f : Mf), wpC G X pv C cd hd k pc ls st n z f → V G X pc ls st n z f
  | 0, _, _, _, _, _, _, h => h
  | k + 1, pc, ls, st, n, z, f, h => by
    unfold wpC at h
    split at h
    · next hfe =>
      obtain ⟨h1, h2⟩ := hc _ (fe_mem hfe)
      refine stp_sound (fun pc ls st n z f h => ?_) h1 h2 (stpC_stp hC h)
      split at h
      · exact h
      · exact wpC_sound hC hc k pc ls st n z f h
    · exact h.elim
-- THE MEMORY
/-- what any reading may change: whether the ways are laid, the pile, the facts, the ways, the queue -/
abbrev Sc : Type := Int32 × (Nat → Int32) × (Nat → Int32) × (Nat → Int32) × (Nat → Int32)
def mO (I : Nat → Int32) (h : Int32) : List Value := [.ref 32, .ref 33, .int (I 2), .ref 34, .ref 35, .ref 36, .ref 37, .ref 38, .int (I 8), .int (I 9), .int (I 10), .int (I 11), .int (I 12), .int (I 13), .int (I 14), .int (I 15), .int (I 16), .int (I 17), .int (I 18), .int (I 19), .ref 39, .ref 40, .int h, .int (I 23), .ref 41, .ref 42, .ref 43, .ref 44, .ref 45, .ref 46, .ref 47, .ref 48, .int (I 32), .int (I 33), .int (I 34), .int (I 35)]
def mM (f0 : Mf) (I W : Nat → Int32) (A : Nat → Nat → Int32) (s : Sc) : Mf := fun x =>
  if x = 31 then cO 9 (mO I s.1) else if x = 32 then cI 1075 W else if x = 33 then cI 1075 (A 33) else if x = 34 then cI 48 (A 34) else if x = 35 then cI 820 (A 35) else if x = 36 then cI 400 (A 36) else if x = 37 then cI 420 s.2.1 else if x = 38 then cI 9 s.2.2.1 else if x = 39 then cI 10000 s.2.2.2.1 else if x = 40 then cI 100 s.2.2.2.2 else if x = 41 then cI 10 (A 41) else if x = 42 then cI 10 (A 42) else if x = 43 then cI 610 (A 43) else if x = 44 then cI 10 (A 44) else if x = 45 then cI 3 (A 45) else if x = 46 then cI 3 (A 46) else if x = 47 then cI 3 (A 47) else if x = 48 then cI 3 (A 48) else f0 x
def upA (A : Nat → Nat → Int32) (j : Nat) (a : Nat → Int32) : Nat → Nat → Int32 := fun i => if i = j then a else A i
section MM
variable {f0 : Mf} {I W : Nat → Int32} {A : Nat → Nat → Int32} {s : Sc}
theorem mM_31 : mM f0 I W A s 31 = cO 9 (mO I s.1) := rfl
theorem mM_32 : mM f0 I W A s 32 = cI 1075 W := rfl
theorem mM_33 : mM f0 I W A s 33 = cI 1075 (A 33) := rfl
theorem mM_34 : mM f0 I W A s 34 = cI 48 (A 34) := rfl
theorem mM_35 : mM f0 I W A s 35 = cI 820 (A 35) := rfl
theorem mM_36 : mM f0 I W A s 36 = cI 400 (A 36) := rfl
theorem mM_41 : mM f0 I W A s 41 = cI 10 (A 41) := rfl
theorem mM_42 : mM f0 I W A s 42 = cI 10 (A 42) := rfl
theorem mM_43 : mM f0 I W A s 43 = cI 610 (A 43) := rfl
theorem mM_44 : mM f0 I W A s 44 = cI 10 (A 44) := rfl
theorem mM_45 : mM f0 I W A s 45 = cI 3 (A 45) := rfl
theorem mM_46 : mM f0 I W A s 46 = cI 3 (A 46) := rfl
theorem mM_47 : mM f0 I W A s 47 = cI 3 (A 47) := rfl
theorem mM_48 : mM f0 I W A s 48 = cI 3 (A 48) := rfl
theorem mM_37 : mM f0 I W A s 37 = cI 420 s.2.1 := rfl
theorem mM_38 : mM f0 I W A s 38 = cI 9 s.2.2.1 := rfl
theorem mM_39 : mM f0 I W A s 39 = cI 10000 s.2.2.2.1 := rfl
theorem mM_40 : mM f0 I W A s 40 = cI 100 s.2.2.2.2 := rfl
theorem mM_o {x : Nat} (h : x < 31 ∨ 48 < x) : mM f0 I W A s x = f0 x := by
  unfold mM
  iterate 18 rw [if_neg (by omega)]
theorem mu_31 {I' : Nat → Int32} {h : Int32} : upC (mM f0 I W A s) 31 (cO 9 (mO I' h)) = mM f0 I' W A (h, s.2) := by
  funext x; unfold upC mM
  by_cases e : x = 31
  · rw [if_pos e, if_pos e]
  · rw [if_neg e, if_neg e, if_neg e]
theorem mu_32 {a : Nat → Int32} : upC (mM f0 I W A s) 32 (cI 1075 a) = mM f0 I a A s := by
  funext x; unfold upC mM
  by_cases e : x = 32
  · subst e; rfl
  · simp only [if_neg e]
theorem mu_33 {a : Nat → Int32} : upC (mM f0 I W A s) 33 (cI 1075 a) = mM f0 I W (upA A 33 a) s := by
  funext x; unfold upC mM upA
  by_cases e : x = 33
  · subst e; rfl
  · simp only [if_neg e, Nat.reduceEqDiff, if_false]
theorem mu_34 {a : Nat → Int32} : upC (mM f0 I W A s) 34 (cI 48 a) = mM f0 I W (upA A 34 a) s := by
  funext x; unfold upC mM upA
  by_cases e : x = 34
  · subst e; rfl
  · simp only [if_neg e, Nat.reduceEqDiff, if_false]
theorem mu_35 {a : Nat → Int32} : upC (mM f0 I W A s) 35 (cI 820 a) = mM f0 I W (upA A 35 a) s := by
  funext x; unfold upC mM upA
  by_cases e : x = 35
  · subst e; rfl
  · simp only [if_neg e, Nat.reduceEqDiff, if_false]
theorem mu_36 {a : Nat → Int32} : upC (mM f0 I W A s) 36 (cI 400 a) = mM f0 I W (upA A 36 a) s := by
  funext x; unfold upC mM upA
  by_cases e : x = 36
  · subst e; rfl
  · simp only [if_neg e, Nat.reduceEqDiff, if_false]
theorem mu_41 {a : Nat → Int32} : upC (mM f0 I W A s) 41 (cI 10 a) = mM f0 I W (upA A 41 a) s := by
  funext x; unfold upC mM upA
  by_cases e : x = 41
  · subst e; rfl
  · simp only [if_neg e, Nat.reduceEqDiff, if_false]
theorem mu_42 {a : Nat → Int32} : upC (mM f0 I W A s) 42 (cI 10 a) = mM f0 I W (upA A 42 a) s := by
  funext x; unfold upC mM upA
  by_cases e : x = 42
  · subst e; rfl
  · simp only [if_neg e, Nat.reduceEqDiff, if_false]
theorem mu_43 {a : Nat → Int32} : upC (mM f0 I W A s) 43 (cI 610 a) = mM f0 I W (upA A 43 a) s := by
  funext x; unfold upC mM upA
  by_cases e : x = 43
  · subst e; rfl
  · simp only [if_neg e, Nat.reduceEqDiff, if_false]
theorem mu_44 {a : Nat → Int32} : upC (mM f0 I W A s) 44 (cI 10 a) = mM f0 I W (upA A 44 a) s := by
  funext x; unfold upC mM upA
  by_cases e : x = 44
  · subst e; rfl
  · simp only [if_neg e, Nat.reduceEqDiff, if_false]
theorem mu_45 {a : Nat → Int32} : upC (mM f0 I W A s) 45 (cI 3 a) = mM f0 I W (upA A 45 a) s := by
  funext x; unfold upC mM upA
  by_cases e : x = 45
  · subst e; rfl
  · simp only [if_neg e, Nat.reduceEqDiff, if_false]
theorem mu_46 {a : Nat → Int32} : upC (mM f0 I W A s) 46 (cI 3 a) = mM f0 I W (upA A 46 a) s := by
  funext x; unfold upC mM upA
  by_cases e : x = 46
  · subst e; rfl
  · simp only [if_neg e, Nat.reduceEqDiff, if_false]
theorem mu_47 {a : Nat → Int32} : upC (mM f0 I W A s) 47 (cI 3 a) = mM f0 I W (upA A 47 a) s := by
  funext x; unfold upC mM upA
  by_cases e : x = 47
  · subst e; rfl
  · simp only [if_neg e, Nat.reduceEqDiff, if_false]
theorem mu_48 {a : Nat → Int32} : upC (mM f0 I W A s) 48 (cI 3 a) = mM f0 I W (upA A 48 a) s := by
  funext x; unfold upC mM upA
  by_cases e : x = 48
  · subst e; rfl
  · simp only [if_neg e, Nat.reduceEqDiff, if_false]
theorem mu_37 {a : Nat → Int32} : upC (mM f0 I W A s) 37 (cI 420 a) = mM f0 I W A (s.1, a, s.2.2) := by
  funext x; unfold upC mM
  by_cases e : x = 37
  · subst e; rfl
  · simp only [if_neg e]
theorem mu_38 {a : Nat → Int32} : upC (mM f0 I W A s) 38 (cI 9 a) = mM f0 I W A (s.1, s.2.1, a, s.2.2.2) := by
  funext x; unfold upC mM
  by_cases e : x = 38
  · subst e; rfl
  · simp only [if_neg e]
theorem mu_39 {a : Nat → Int32} : upC (mM f0 I W A s) 39 (cI 10000 a) = mM f0 I W A (s.1, s.2.1, s.2.2.1, a, s.2.2.2.2) := by
  funext x; unfold upC mM
  by_cases e : x = 39
  · subst e; rfl
  · simp only [if_neg e]
theorem mu_40 {a : Nat → Int32} : upC (mM f0 I W A s) 40 (cI 100 a) = mM f0 I W A (s.1, s.2.1, s.2.2.1, s.2.2.2.1, a) := by
  funext x; unfold upC mM
  by_cases e : x = 40
  · subst e; rfl
  · simp only [if_neg e]
theorem mO_len {h : Int32} : (mO I h).length = 36 := rfl
theorem mg_0 {h : Int32} : nthV (mO I h) 0 = .ref 32 := rfl
theorem mg_1 {h : Int32} : nthV (mO I h) 1 = .ref 33 := rfl
theorem mg_3 {h : Int32} : nthV (mO I h) 3 = .ref 34 := rfl
theorem mg_4 {h : Int32} : nthV (mO I h) 4 = .ref 35 := rfl
theorem mg_5 {h : Int32} : nthV (mO I h) 5 = .ref 36 := rfl
theorem mg_6 {h : Int32} : nthV (mO I h) 6 = .ref 37 := rfl
theorem mg_7 {h : Int32} : nthV (mO I h) 7 = .ref 38 := rfl
theorem mg_20 {h : Int32} : nthV (mO I h) 20 = .ref 39 := rfl
theorem mg_21 {h : Int32} : nthV (mO I h) 21 = .ref 40 := rfl
theorem mg_24 {h : Int32} : nthV (mO I h) 24 = .ref 41 := rfl
theorem mg_25 {h : Int32} : nthV (mO I h) 25 = .ref 42 := rfl
theorem mg_26 {h : Int32} : nthV (mO I h) 26 = .ref 43 := rfl
theorem mg_27 {h : Int32} : nthV (mO I h) 27 = .ref 44 := rfl
theorem mg_28 {h : Int32} : nthV (mO I h) 28 = .ref 45 := rfl
theorem mg_29 {h : Int32} : nthV (mO I h) 29 = .ref 46 := rfl
theorem mg_30 {h : Int32} : nthV (mO I h) 30 = .ref 47 := rfl
theorem mg_31 {h : Int32} : nthV (mO I h) 31 = .ref 48 := rfl
theorem mg_2 {h : Int32} : nthV (mO I h) 2 = .int (I 2) := rfl
theorem ms_2 {h v : Int32} : (mO I h).set 2 (.int v) = mO (upd I 2 v) h := rfl
theorem mg_8 {h : Int32} : nthV (mO I h) 8 = .int (I 8) := rfl
theorem ms_8 {h v : Int32} : (mO I h).set 8 (.int v) = mO (upd I 8 v) h := rfl
theorem mg_9 {h : Int32} : nthV (mO I h) 9 = .int (I 9) := rfl
theorem ms_9 {h v : Int32} : (mO I h).set 9 (.int v) = mO (upd I 9 v) h := rfl
theorem mg_10 {h : Int32} : nthV (mO I h) 10 = .int (I 10) := rfl
theorem ms_10 {h v : Int32} : (mO I h).set 10 (.int v) = mO (upd I 10 v) h := rfl
theorem mg_11 {h : Int32} : nthV (mO I h) 11 = .int (I 11) := rfl
theorem ms_11 {h v : Int32} : (mO I h).set 11 (.int v) = mO (upd I 11 v) h := rfl
theorem mg_12 {h : Int32} : nthV (mO I h) 12 = .int (I 12) := rfl
theorem ms_12 {h v : Int32} : (mO I h).set 12 (.int v) = mO (upd I 12 v) h := rfl
theorem mg_13 {h : Int32} : nthV (mO I h) 13 = .int (I 13) := rfl
theorem ms_13 {h v : Int32} : (mO I h).set 13 (.int v) = mO (upd I 13 v) h := rfl
theorem mg_14 {h : Int32} : nthV (mO I h) 14 = .int (I 14) := rfl
theorem ms_14 {h v : Int32} : (mO I h).set 14 (.int v) = mO (upd I 14 v) h := rfl
theorem mg_15 {h : Int32} : nthV (mO I h) 15 = .int (I 15) := rfl
theorem ms_15 {h v : Int32} : (mO I h).set 15 (.int v) = mO (upd I 15 v) h := rfl
theorem mg_16 {h : Int32} : nthV (mO I h) 16 = .int (I 16) := rfl
theorem ms_16 {h v : Int32} : (mO I h).set 16 (.int v) = mO (upd I 16 v) h := rfl
theorem mg_17 {h : Int32} : nthV (mO I h) 17 = .int (I 17) := rfl
theorem ms_17 {h v : Int32} : (mO I h).set 17 (.int v) = mO (upd I 17 v) h := rfl
theorem mg_18 {h : Int32} : nthV (mO I h) 18 = .int (I 18) := rfl
theorem ms_18 {h v : Int32} : (mO I h).set 18 (.int v) = mO (upd I 18 v) h := rfl
theorem mg_19 {h : Int32} : nthV (mO I h) 19 = .int (I 19) := rfl
theorem ms_19 {h v : Int32} : (mO I h).set 19 (.int v) = mO (upd I 19 v) h := rfl
theorem mg_23 {h : Int32} : nthV (mO I h) 23 = .int (I 23) := rfl
theorem ms_23 {h v : Int32} : (mO I h).set 23 (.int v) = mO (upd I 23 v) h := rfl
theorem mg_32 {h : Int32} : nthV (mO I h) 32 = .int (I 32) := rfl
theorem ms_32 {h v : Int32} : (mO I h).set 32 (.int v) = mO (upd I 32 v) h := rfl
theorem mg_33 {h : Int32} : nthV (mO I h) 33 = .int (I 33) := rfl
theorem ms_33 {h v : Int32} : (mO I h).set 33 (.int v) = mO (upd I 33 v) h := rfl
theorem mg_34 {h : Int32} : nthV (mO I h) 34 = .int (I 34) := rfl
theorem ms_34 {h v : Int32} : (mO I h).set 34 (.int v) = mO (upd I 34 v) h := rfl
theorem mg_35 {h : Int32} : nthV (mO I h) 35 = .int (I 35) := rfl
theorem ms_35 {h v : Int32} : (mO I h).set 35 (.int v) = mO (upd I 35 v) h := rfl
theorem mg_22 {h : Int32} : nthV (mO I h) 22 = .int h := rfl
theorem ms_22 {h v : Int32} : (mO I h).set 22 (.int v) = mO I v := rfl
end MM
theorem cN_0 : (0 : Int32).toNatClampNeg = 0 := rfl
theorem vN_0 : vp_in (0 : Int32) 1075 = True := eq_true ((vin_nI (i := 0) (by omega)).mpr (by omega))
theorem cN_1 : (1 : Int32).toNatClampNeg = 1 := rfl
theorem vN_1 : vp_in (1 : Int32) 1075 = True := eq_true ((vin_nI (i := 1) (by omega)).mpr (by omega))
theorem cN_2 : (2 : Int32).toNatClampNeg = 2 := rfl
theorem vN_2 : vp_in (2 : Int32) 1075 = True := eq_true ((vin_nI (i := 2) (by omega)).mpr (by omega))
theorem cN_3 : (3 : Int32).toNatClampNeg = 3 := rfl
theorem vN_3 : vp_in (3 : Int32) 1075 = True := eq_true ((vin_nI (i := 3) (by omega)).mpr (by omega))
theorem cN_4 : (4 : Int32).toNatClampNeg = 4 := rfl
theorem vN_4 : vp_in (4 : Int32) 1075 = True := eq_true ((vin_nI (i := 4) (by omega)).mpr (by omega))
theorem cN_5 : (5 : Int32).toNatClampNeg = 5 := rfl
theorem vN_5 : vp_in (5 : Int32) 1075 = True := eq_true ((vin_nI (i := 5) (by omega)).mpr (by omega))
theorem cN_6 : (6 : Int32).toNatClampNeg = 6 := rfl
theorem vN_6 : vp_in (6 : Int32) 1075 = True := eq_true ((vin_nI (i := 6) (by omega)).mpr (by omega))
theorem cN_7 : (7 : Int32).toNatClampNeg = 7 := rfl
theorem vN_7 : vp_in (7 : Int32) 1075 = True := eq_true ((vin_nI (i := 7) (by omega)).mpr (by omega))
theorem cN_8 : (8 : Int32).toNatClampNeg = 8 := rfl
theorem vN_8 : vp_in (8 : Int32) 1075 = True := eq_true ((vin_nI (i := 8) (by omega)).mpr (by omega))
theorem cN_9 : (9 : Int32).toNatClampNeg = 9 := rfl
theorem vN_9 : vp_in (9 : Int32) 1075 = True := eq_true ((vin_nI (i := 9) (by omega)).mpr (by omega))
theorem cN_190 : (190 : Int32).toNatClampNeg = 190 := rfl
theorem vN_190 : vp_in (190 : Int32) 1075 = True := eq_true ((vin_nI (i := 190) (by omega)).mpr (by omega))
-- the smallest methods
section Prim
variable {G : Gam} {d n z : Nat} {f : Mf}
theorem t_isIn (hG : Ok G) (v lo hi : Int32) : Tr G d 125 [.int v, .int lo, .int hi] n z f (Same (.int (bI (¬ v < lo ∧ ¬ hi < v))) n z f) := by
  refine Tr.of2 (ls0 := [.int v, .int lo, .int hi]) hG mo_X9_isIn (Nat.le_of_ble_eq_true rfl) rfl ?_
  intro X hi hd hXn hXz hXf hQ
  refine wp_sound (by rw [hi]; exact ok_X9_isIn) (hd := []) 400 _ _ _ _ _ _ ?_
  simp only [wp, stp, List.mem_cons, List.not_mem_nil, Nat.reduceEqDiff, or_false, or_self, false_or, or_true, true_or, Nat.reduceAdd, ↓reduceIte, List.getElem?_cons_zero, List.getElem?_cons_succ, nthV, List.set_cons_zero, List.set_cons_succ, noL, popA, catS, Value.category, List.length_cons, List.length_nil, Nat.reduceLT, Nat.reduceLeDiff, true_and, and_true, one0, zer1, imp_t, imp_f, ofN_nI, sdead, f20, f21, not_true_eq_false, upC_ap, upC_upC, retC, fitC, isRefT, Option.toList_some, Option.toList_none, List.cons_append, List.nil_append, Nat.lt_add_one, Nat.zero_lt_succ, Nat.le_refl, Nat.add_zero, Nat.zero_add, Nat.one_ne_zero, Nat.zero_ne_one, Nat.lt_irrefl, List.length_set, fa_X9_isIn, hi, hd, hQ, mr_X9_isIn, mM_31, mM_32, mM_33, mM_34, mM_35, mM_36, mM_37, mM_38, mM_39, mM_40, mM_41, mM_42, mM_43, mM_44, mM_45, mM_46, mM_47, mM_48, mu_31, mu_32, mu_33, mu_34, mu_35, mu_36, mu_37, mu_38, mu_39, mu_40, mu_41, mu_42, mu_43, mu_44, mu_45, mu_46, mu_47, mu_48, mO_len, mg_0, mg_1, mg_2, mg_3, mg_4, mg_5, mg_6, mg_7, mg_8, mg_9, mg_10, mg_11, mg_12, mg_13, mg_14, mg_15, mg_16, mg_17, mg_18, mg_19, mg_20, mg_21, mg_22, mg_23, mg_24, mg_25, mg_26, mg_27, mg_28, mg_29, mg_30, mg_31, mg_32, mg_33, mg_34, mg_35, ms_2, ms_8, ms_9, ms_10, ms_11, ms_12, ms_13, ms_14, ms_15, ms_16, ms_17, ms_18, ms_19, ms_22, ms_23, ms_32, ms_33, ms_34, ms_35, cN_0, vN_0, cN_1, vN_1, cN_2, vN_2, cN_3, vN_3, cN_4, vN_4, cN_5, vN_5, cN_6, vN_6, cN_7, vN_7, cN_8, vN_8, cN_9, vN_9, cN_190, vN_190]
  exact ⟨fun h => Same.i (bI_f (fun q => q.1 h)).symm, fun ha => ⟨fun h => Same.i (bI_f (fun q => q.2 h)).symm, fun hb => Same.i (bI_t ⟨ha, hb⟩).symm⟩⟩
theorem t_least (hG : Ok G) (a b : Int32) : Tr G d 126 [.int a, .int b] n z f (Same (.int (if a < b then a else b)) n z f) := by
  refine Tr.of2 (ls0 := [.int a, .int b]) hG mo_X9_least (Nat.le_of_ble_eq_true rfl) rfl ?_
  intro X hi hd hXn hXz hXf hQ
  refine wp_sound (by rw [hi]; exact ok_X9_least) (hd := []) 400 _ _ _ _ _ _ ?_
  simp only [wp, stp, List.mem_cons, List.not_mem_nil, Nat.reduceEqDiff, or_false, or_self, false_or, or_true, true_or, Nat.reduceAdd, ↓reduceIte, List.getElem?_cons_zero, List.getElem?_cons_succ, nthV, List.set_cons_zero, List.set_cons_succ, noL, popA, catS, Value.category, List.length_cons, List.length_nil, Nat.reduceLT, Nat.reduceLeDiff, true_and, and_true, one0, zer1, imp_t, imp_f, ofN_nI, sdead, f20, f21, not_true_eq_false, upC_ap, upC_upC, retC, fitC, isRefT, Option.toList_some, Option.toList_none, List.cons_append, List.nil_append, Nat.lt_add_one, Nat.zero_lt_succ, Nat.le_refl, Nat.add_zero, Nat.zero_add, Nat.one_ne_zero, Nat.zero_ne_one, Nat.lt_irrefl, List.length_set, fa_X9_least, hi, hd, hQ, mr_X9_least, mM_31, mM_32, mM_33, mM_34, mM_35, mM_36, mM_37, mM_38, mM_39, mM_40, mM_41, mM_42, mM_43, mM_44, mM_45, mM_46, mM_47, mM_48, mu_31, mu_32, mu_33, mu_34, mu_35, mu_36, mu_37, mu_38, mu_39, mu_40, mu_41, mu_42, mu_43, mu_44, mu_45, mu_46, mu_47, mu_48, mO_len, mg_0, mg_1, mg_2, mg_3, mg_4, mg_5, mg_6, mg_7, mg_8, mg_9, mg_10, mg_11, mg_12, mg_13, mg_14, mg_15, mg_16, mg_17, mg_18, mg_19, mg_20, mg_21, mg_22, mg_23, mg_24, mg_25, mg_26, mg_27, mg_28, mg_29, mg_30, mg_31, mg_32, mg_33, mg_34, mg_35, ms_2, ms_8, ms_9, ms_10, ms_11, ms_12, ms_13, ms_14, ms_15, ms_16, ms_17, ms_18, ms_19, ms_22, ms_23, ms_32, ms_33, ms_34, ms_35, cN_0, vN_0, cN_1, vN_1, cN_2, vN_2, cN_3, vN_3, cN_4, vN_4, cN_5, vN_5, cN_6, vN_6, cN_7, vN_7, cN_8, vN_8, cN_9, vN_9, cN_190, vN_190]
  exact ⟨fun h => Same.i (by rw [if_neg (Int32.not_lt.mpr h)]), fun h => Same.i (by rw [if_pos (Int32.not_le.mp h)])⟩
theorem t_own (hG : Ok G) {fs : List Value} {N : Nat} {W : Nat → Int32} (h1 : f 31 = cO 9 fs) (h2 : nthV fs 0 = .ref 32) (h3 : f 32 = cI N W) (t j : Int32) (hin : vp_in (120 + 6 * t + j) N) : Tr G d 131 [.ref 31, .int t, .int j] n z f (Same (.int (W (120 + 6 * t + j).toNatClampNeg)) n z f) := by
  refine Tr.of2 (ls0 := [.ref 31, .int t, .int j]) hG mo_X9_own (Nat.le_of_ble_eq_true rfl) rfl ?_
  intro X hi hd hXn hXz hXf hQ
  refine wp_sound (by rw [hi]; exact ok_X9_own) (hd := []) 400 _ _ _ _ _ _ ?_
  simp only [wp, stp, List.mem_cons, List.not_mem_nil, Nat.reduceEqDiff, or_false, or_self, false_or, or_true, true_or, Nat.reduceAdd, ↓reduceIte, List.getElem?_cons_zero, List.getElem?_cons_succ, nthV, List.set_cons_zero, List.set_cons_succ, noL, popA, catS, Value.category, List.length_cons, List.length_nil, Nat.reduceLT, Nat.reduceLeDiff, true_and, and_true, one0, zer1, imp_t, imp_f, ofN_nI, sdead, f20, f21, not_true_eq_false, upC_ap, upC_upC, retC, fitC, isRefT, Option.toList_some, Option.toList_none, List.cons_append, List.nil_append, Nat.lt_add_one, Nat.zero_lt_succ, Nat.le_refl, Nat.add_zero, Nat.zero_add, Nat.one_ne_zero, Nat.zero_ne_one, Nat.lt_irrefl, List.length_set, fa_X9_own, hi, hd, hQ, mr_X9_own, h1, h2, h3, mM_31, mM_32, mM_33, mM_34, mM_35, mM_36, mM_37, mM_38, mM_39, mM_40, mM_41, mM_42, mM_43, mM_44, mM_45, mM_46, mM_47, mM_48, mu_31, mu_32, mu_33, mu_34, mu_35, mu_36, mu_37, mu_38, mu_39, mu_40, mu_41, mu_42, mu_43, mu_44, mu_45, mu_46, mu_47, mu_48, mO_len, mg_0, mg_1, mg_2, mg_3, mg_4, mg_5, mg_6, mg_7, mg_8, mg_9, mg_10, mg_11, mg_12, mg_13, mg_14, mg_15, mg_16, mg_17, mg_18, mg_19, mg_20, mg_21, mg_22, mg_23, mg_24, mg_25, mg_26, mg_27, mg_28, mg_29, mg_30, mg_31, mg_32, mg_33, mg_34, mg_35, ms_2, ms_8, ms_9, ms_10, ms_11, ms_12, ms_13, ms_14, ms_15, ms_16, ms_17, ms_18, ms_19, ms_22, ms_23, ms_32, ms_33, ms_34, ms_35, cN_0, vN_0, cN_1, vN_1, cN_2, vN_2, cN_3, vN_3, cN_4, vN_4, cN_5, vN_5, cN_6, vN_6, cN_7, vN_7, cN_8, vN_8, cN_9, vN_9, cN_190, vN_190]
  exact ⟨hin, Same.i rfl⟩
theorem t_gives (hG : Ok G) {fs : List Value} {N : Nat} {W : Nat → Int32} (h1 : f 31 = cO 9 fs) (h2 : nthV fs 0 = .ref 32) (h3 : f 32 = cI N W) (t j v : Int32) (hin : vp_in (120 + 6 * t + j) N) : Tr G d 132 [.ref 31, .int t, .int j, .int v] n z f (fun w n' z' f' => w = none ∧ n' = n ∧ z' = z ∧ f' = upC f 32 (cI N (upd W (120 + 6 * t + j).toNatClampNeg v))) := by
  refine Tr.of2 (ls0 := [.ref 31, .int t, .int j, .int v]) hG mo_X9_gives (Nat.le_of_ble_eq_true rfl) rfl ?_
  intro X hi hd hXn hXz hXf hQ
  refine wp_sound (by rw [hi]; exact ok_X9_gives) (hd := []) 400 _ _ _ _ _ _ ?_
  simp only [wp, stp, List.mem_cons, List.not_mem_nil, Nat.reduceEqDiff, or_false, or_self, false_or, or_true, true_or, Nat.reduceAdd, ↓reduceIte, List.getElem?_cons_zero, List.getElem?_cons_succ, nthV, List.set_cons_zero, List.set_cons_succ, noL, popA, catS, Value.category, List.length_cons, List.length_nil, Nat.reduceLT, Nat.reduceLeDiff, true_and, and_true, one0, zer1, imp_t, imp_f, ofN_nI, sdead, f20, f21, not_true_eq_false, upC_ap, upC_upC, retC, fitC, isRefT, Option.toList_some, Option.toList_none, List.cons_append, List.nil_append, Nat.lt_add_one, Nat.zero_lt_succ, Nat.le_refl, Nat.add_zero, Nat.zero_add, Nat.one_ne_zero, Nat.zero_ne_one, Nat.lt_irrefl, List.length_set, fa_X9_gives, hi, hd, hQ, mr_X9_gives, h1, h2, h3, mM_31, mM_32, mM_33, mM_34, mM_35, mM_36, mM_37, mM_38, mM_39, mM_40, mM_41, mM_42, mM_43, mM_44, mM_45, mM_46, mM_47, mM_48, mu_31, mu_32, mu_33, mu_34, mu_35, mu_36, mu_37, mu_38, mu_39, mu_40, mu_41, mu_42, mu_43, mu_44, mu_45, mu_46, mu_47, mu_48, mO_len, mg_0, mg_1, mg_2, mg_3, mg_4, mg_5, mg_6, mg_7, mg_8, mg_9, mg_10, mg_11, mg_12, mg_13, mg_14, mg_15, mg_16, mg_17, mg_18, mg_19, mg_20, mg_21, mg_22, mg_23, mg_24, mg_25, mg_26, mg_27, mg_28, mg_29, mg_30, mg_31, mg_32, mg_33, mg_34, mg_35, ms_2, ms_8, ms_9, ms_10, ms_11, ms_12, ms_13, ms_14, ms_15, ms_16, ms_17, ms_18, ms_19, ms_22, ms_23, ms_32, ms_33, ms_34, ms_35, cN_0, vN_0, cN_1, vN_1, cN_2, vN_2, cN_3, vN_3, cN_4, vN_4, cN_5, vN_5, cN_6, vN_6, cN_7, vN_7, cN_8, vN_8, cN_9, vN_9, cN_190, vN_190]
  first | exact hin | exact ⟨hin, rfl⟩
end Prim
abbrev PV : List Nat := [125, 126, 131, 132]
def PC : Orc := fun i av n z f K => match i with
  | 125 => (match av with | [.int v, .int lo, .int hi] => K (some (.int (bI (¬ v < lo ∧ ¬ hi < v)))) n z f | _ => False)
  | 126 => (match av with | [.int a, .int b] => K (some (.int (if a < b then a else b))) n z f | _ => False)
  | 131 => (match av with | [.ref 31, .int t, .int j] => (match f 31 with | .inr (.inr (ci, fs)) => ci = 9 ∧ nthV fs 0 = .ref 32 ∧ (match f 32 with | .inl (ty, N, W) => ty = 0 ∧ vp_in (120 + 6 * t + j) N ∧ K (some (.int (W (120 + 6 * t + j).toNatClampNeg))) n z f | _ => False) | _ => False) | _ => False)
  | 132 => (match av with | [.ref 31, .int t, .int j, .int v] => (match f 31 with | .inr (.inr (ci, fs)) => ci = 9 ∧ nthV fs 0 = .ref 32 ∧ (match f 32 with | .inl (ty, N, W) => ty = 0 ∧ vp_in (120 + 6 * t + j) N ∧ K none n z (upC f 32 (cI N (upd W (120 + 6 * t + j).toNatClampNeg v))) | _ => False) | _ => False) | _ => False)
  | _ => False
theorem PC_ok {G : Gam} (hG : Ok G) (d : Nat) : OrcOk G d PV PC := by
  refine ⟨fun i hi => by simp at hi; omega, fun i av n z f K hi h => ?_⟩
  unfold PC at h
  split at h
  · split at h
    · exact (t_isIn hG _ _ _).post (by rintro _ _ _ _ ⟨rfl, rfl, rfl, rfl⟩; exact h)
    · exact h.elim
  · split at h
    · exact (t_least hG _ _).post (by rintro _ _ _ _ ⟨rfl, rfl, rfl, rfl⟩; exact h)
    · exact h.elim
  · split at h
    · split at h
      · next h1 =>
        obtain ⟨rfl, h2, h⟩ := h
        split at h
        · next h3 =>
          obtain ⟨rfl, h4, h⟩ := h
          exact (t_own hG h1 h2 h3 _ _ h4).post (by rintro _ _ _ _ ⟨rfl, rfl, rfl, rfl⟩; exact h)
        · exact h.elim
      · exact h.elim
    · exact h.elim
  · split at h
    · split at h
      · next h1 =>
        obtain ⟨rfl, h2, h⟩ := h
        split at h
        · next h3 =>
          obtain ⟨rfl, h4, h⟩ := h
          exact (t_gives hG h1 h2 h3 _ _ _ h4).post (by rintro _ _ _ _ ⟨rfl, rfl, rfl, rfl⟩; exact h)
        · exact h.elim
      · exact h.elim
    · exact h.elim
  · exact h.elim
