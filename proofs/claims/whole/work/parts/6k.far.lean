-- FarFromAnybody: another law, at new cells
set_option maxRecDepth 100000
set_option maxHeartbeats 4000000
section X8k
variable {G : Gam} {d : Nat} {S S' : Sta} {L L' : Lw} {lp N Z K n n' z z' tl i : Nat} {ro to ko : Option Nat} {tb : Nat → Nat} {fk fp : Int32} {kp : Option (Sta × Lw)} {f f' : Mf}
theorem XM.lawN {A : List Nat} {N' Z' K' : Nat} (h : XM S L lp N Z K ro to ko tb tl fk fp kp f n z) (hV : Vk S') (hLk : Lok L') (hW : CW S' L' n N' Z' K' f' n' z') (hP : LwP f' n L') (hF : FRM A f n f') (hA : ∀ x, x ∈ A → (1 ≤ x ∧ x ≤ 9) ∨ (12 ≤ x ∧ x ≤ 23)) (hn : n ≤ n') : XM S' L' n N' Z' K' ro to ko tb tl fk fp kp f' n' z' ∧ RFX f f' := by
  have no : ∀ x, ¬ ((1 ≤ x ∧ x ≤ 9) ∨ (12 ≤ x ∧ x ≤ 23)) → x ∉ A := fun x a b => a (hA x b)
  obtain ⟨⟨v1, v2⟩, ⟨m1, m2⟩, ⟨⟨a, ha⟩, ⟨wi, go, pa, hw⟩, st, hs⟩, ⟨w1, w2⟩, m3, ⟨b1, b2, b3⟩, b4⟩ := h
  have b1' : BR f' n' n ro := fun r hr => by
    obtain ⟨c1, c2, c3⟩ := b1.frm hF hn r hr
    have := (b1 r hr).1
    exact ⟨c1, Or.inl (by omega), c3⟩
  have b2' : BT f' n' n to := fun t ht => by
    obtain ⟨c1, c2, c3⟩ := b2.frm hF hn t ht
    have := (b2 t ht).1
    exact ⟨c1, Or.inl (by omega), c3⟩
  have b3' : BK f' n' n ro to ko kp := by
    have q := b3.frm hF ⟨no 10 (by omega), no 11 (by omega)⟩ hn
    cases ko with
    | none => cases kp with
      | none => trivial
      | some q2 => exact q.elim
    | some k => cases kp with
      | none => exact q.elim
      | some q2 =>
        obtain ⟨S2, L2⟩ := q2
        obtain ⟨h1, h2, h3⟩ := q
        have := b3.1
        exact ⟨h1, Or.inl (by omega), h3⟩
  refine ⟨⟨⟨hV, hLk⟩, ⟨m1.old hF.2.2, m2.eq (hF.1 30 (by omega) (no 30 (by omega)))⟩, ⟨⟨a, ha.cong (hF.1 28 (by omega) (no 28 (by omega)))⟩, ⟨wi, go, pa, hw.cong (fun x a b => hF.1 x (by omega) (no x (by omega)))⟩, st, by rw [hF.1 29 (by omega) (no 29 (by omega))]; exact hs⟩, ⟨hW, hP⟩, ?_, ⟨b1', b2', b3'⟩, b4⟩, fun x a b => hF.1 x (by omega) (no x (by omega)), hF.2.2⟩
  rw [hF.1 0 (by omega) (no 0 (by omega))]; exact m3
abbrev plP (w h : Int32) : Prop := (¬ w < 2 ∧ ¬ 10 < w) ∧ ¬ h < 2 ∧ h ≤ 10
theorem Vk.clr {w h : Int32} (hp : plP w h) : Vk (clrS S w h) := by
  have g2 : ∀ v : Int32, ¬ v < 2 → v ≤ 10 → ∃ j, 2 ≤ j ∧ j ≤ 10 ∧ v = nI j := fun v h1 h2 => by
    have t2 : (2 : Int32).toInt = 2 := rfl
    have t0 : (0 : Int32).toInt = 0 := rfl
    obtain ⟨j, hj, rfl⟩ := nI_of2 (M := 10) (n := 10) rfl (fun hx => h1 (by rw [Int32.lt_iff_toInt_lt] at hx ⊢; omega)) h2
    refine ⟨j, ?_, hj, rfl⟩
    rcases Nat.lt_or_ge j 2 with r | r
    · exact absurd ((nI_ltI (b := 2) (by omega) (by omega)).mpr r) h1
    · exact r
  obtain ⟨a, a1, a2, rfl⟩ := g2 w hp.1.1 (by
    have := hp.1.2
    rw [Int32.lt_iff_toInt_lt] at this; rw [Int32.le_iff_toInt_le]; omega)
  obtain ⟨b, b1, b2, rfl⟩ := g2 h hp.2.1 hp.2.2
  refine ⟨⟨⟨⟨⟨rfl, Nat.zero_le _⟩, ⟨rfl, Nat.zero_le _⟩, a, b, rfl, rfl, a1, a2, b1, b2⟩, Nat.zero_le _⟩, fun o ho => ?_, fun t ht => absurd ht (Nat.not_lt_zero t), fun t ht => absurd ht (Nat.not_lt_zero t), ⟨0, by omega, rfl⟩, Or.inl rfl, fun c hc => Or.inl rfl⟩, 0, by omega, rfl⟩
  have : o < 0 + 0 + 1 := ho
  have : o = 0 := by omega
  subst this
  exact Or.inl rfl
theorem t8_plain (hG : Ok G) (hd1 : 4 ≤ d) (h : XM S L lp N Z K ro to ko tb tl fk fp kp f n z) (hK : K + 1 < 100000) (hN : N + 2 ≤ CAP) (hZ : Z + 3 ≤ SCAP) (w hh : Int32) : Tr G d 90 [.ref 0, .int w, .int hh] n z f (fun v n' z' f' => if plP w hh then XQ (clrS S w hh) L0 n (N + 2) (Z + 3) (K + 1) ro to ko tb tl fk fp kp f 1 v n' z' f' else XQ S L lp N Z K ro to ko tb tl fk fp kp f 0 v n' z' f') := by
  have a0 := h.o
  have a1 := h.cr.at
  obtain ⟨-, -, ⟨c3, -, -⟩, -, -, -, g1, g2, -, -, -, w4, w5⟩ := id h.cw
  have hCAP : CAP = 600000 := rfl
  refine Tr.of2 (ls0 := [.ref 0, .int w, .int hh]) hG mo_X8_plain (Nat.le_of_ble_eq_true rfl) rfl ?_
  intro X hi hd hXn hXz hXf hQ
  by_cases hp : plP w hh
  · simp only [if_pos hp] at hQ
    obtain ⟨⟨p1, p2⟩, p3, p4⟩ := id hp
    refine wp_sound (by rw [hi]; exact ok_X8_plain) (hd := [33, 37]) 400 _ _ _ _ _ _ ?_
    simp only [wp, stp, List.mem_cons, List.not_mem_nil, Nat.reduceEqDiff, or_false, or_self, false_or, or_true, true_or, Nat.reduceAdd, ↓reduceIte, List.getElem?_cons_zero, List.getElem?_cons_succ, nthV, List.set_cons_zero, List.set_cons_succ, noL, popA, catS, Value.category, List.length_cons, List.length_nil, Nat.reduceLT, Nat.reduceLeDiff, true_and, and_true, one0, zer1, imp_t, imp_f, ofN_nI, sdead, f20, f21, not_true_eq_false, upC_ap, upC_upC, retC, fitC, isRefT, Option.toList_some, Option.toList_none, List.cons_append, List.nil_append, Nat.lt_add_one, Nat.zero_lt_succ, Nat.le_refl, Nat.add_zero, Nat.zero_add, Nat.one_ne_zero, Nat.zero_ne_one, Nat.lt_irrefl, List.length_set, fa_X8_plain, hi, hd, hQ, mr_X8_plain, a0, a1]
    refine ⟨fun q => absurd q p1, fun _ => ⟨fun q => absurd q p2, fun _ => ⟨fun q => absurd q p3, fun _ => ⟨fun _ => ⟨by omega, _, t_clear hG (by omega) ⟨c3, by omega⟩ (by omega) h.cr w hh, ?_⟩, fun q => absurd p4 q⟩⟩⟩⟩
    rintro r n2 z2 f2 ⟨rfl, rfl, rfl, hC, hl1, ⟨st, hl2⟩, hf⟩
    have hW2 : CW2 S (clrS S w hh) L0 n (N + 2) (Z + 3) K f2 (n + 2) (z + 3) := by
      have := CW2.more (S0 := S) (S := S) (L' := L0) (lp' := n) (n' := n + 2) (z' := z + 3) h.cw (by omega) (by omega) (by omega) (by omega) (fun x hx => hf x (by omega)) hC (lawA_0 ⟨Or.inr c3, by omega⟩ hl1 hl2)
      rw [show n + 2 - n = 2 by omega, show z + 3 - z = 3 by omega] at this
      exact this
    have h02 := (hf 0 (by omega)).trans a0
    refine wp_sound (by rw [hi]; exact ok_X8_plain) (hd := [33, 37]) 400 _ _ _ _ _ _ ?_
    simp only [wp, stp, List.mem_cons, List.not_mem_nil, Nat.reduceEqDiff, or_false, or_self, false_or, or_true, true_or, Nat.reduceAdd, ↓reduceIte, List.getElem?_cons_zero, List.getElem?_cons_succ, nthV, List.set_cons_zero, List.set_cons_succ, noL, popA, catS, Value.category, List.length_cons, List.length_nil, Nat.reduceLT, Nat.reduceLeDiff, true_and, and_true, one0, zer1, imp_t, imp_f, ofN_nI, sdead, f20, f21, not_true_eq_false, upC_ap, upC_upC, retC, fitC, isRefT, Option.toList_some, Option.toList_none, List.cons_append, List.nil_append, Nat.lt_add_one, Nat.zero_lt_succ, Nat.le_refl, Nat.add_zero, Nat.zero_add, Nat.one_ne_zero, Nat.zero_ne_one, Nat.lt_irrefl, List.length_set, fa_X8_plain, hi, hd, hQ, mr_X8_plain, h02]
    refine ⟨by omega, _, t8_forgetWays hG (by omega) h02 hW2 hK, ?_⟩
    rintro r n3 z3 f3 ⟨rfl, rfl, rfl, hW, hf3⟩
    have hF : FRM [1, 2, 12, 16] f n f3 := ⟨fun x a b => by
        rw [hf3 x (by simp at b; omega) (by simp at b; omega), hf x (by simp at b; omega)], fun x a a' _ => by rw [hf3 x (by omega) (by omega), hf x (by omega)], fun x a => by rw [hf3 x (by omega) (by omega), hf x (by omega)]⟩
    have hX := h.lawN (Vk.clr hp) (fun _ _ _ _ => rfl) hW ((hf3 n (by omega) (by omega)).trans hl1) hF (by decide) (by omega)
    refine wp_sound (by rw [hi]; exact ok_X8_plain) (hd := [33, 37]) 400 _ _ _ _ _ _ ?_
    simp only [wp, stp, List.mem_cons, List.not_mem_nil, Nat.reduceEqDiff, or_false, or_self, false_or, or_true, true_or, Nat.reduceAdd, ↓reduceIte, List.getElem?_cons_zero, List.getElem?_cons_succ, nthV, List.set_cons_zero, List.set_cons_succ, noL, popA, catS, Value.category, List.length_cons, List.length_nil, Nat.reduceLT, Nat.reduceLeDiff, true_and, and_true, one0, zer1, imp_t, imp_f, ofN_nI, sdead, f20, f21, not_true_eq_false, upC_ap, upC_upC, retC, fitC, isRefT, Option.toList_some, Option.toList_none, List.cons_append, List.nil_append, Nat.lt_add_one, Nat.zero_lt_succ, Nat.le_refl, Nat.add_zero, Nat.zero_add, Nat.one_ne_zero, Nat.zero_ne_one, Nat.lt_irrefl, List.length_set, fa_X8_plain, hi, hd, hQ, mr_X8_plain]
    exact ⟨rfl, hX⟩
  · simp only [if_neg hp] at hQ
    have no : XQ S L lp N Z K ro to ko tb tl fk fp kp f 0 (some (.int 0)) n z f := ⟨rfl, h, RFX.refl f⟩
    refine wp_sound (by rw [hi]; exact ok_X8_plain) (hd := [24, 33, 37]) 400 _ _ _ _ _ _ ?_
    simp only [wp, stp, List.mem_cons, List.not_mem_nil, Nat.reduceEqDiff, or_false, or_self, false_or, or_true, true_or, Nat.reduceAdd, ↓reduceIte, List.getElem?_cons_zero, List.getElem?_cons_succ, nthV, List.set_cons_zero, List.set_cons_succ, noL, popA, catS, Value.category, List.length_cons, List.length_nil, Nat.reduceLT, Nat.reduceLeDiff, true_and, and_true, one0, zer1, imp_t, imp_f, ofN_nI, sdead, f20, f21, not_true_eq_false, upC_ap, upC_upC, retC, fitC, isRefT, Option.toList_some, Option.toList_none, List.cons_append, List.nil_append, Nat.lt_add_one, Nat.zero_lt_succ, Nat.le_refl, Nat.add_zero, Nat.zero_add, Nat.one_ne_zero, Nat.zero_ne_one, Nat.lt_irrefl, List.length_set, fa_X8_plain, hi, hd, hQ, mr_X8_plain, a0, a1]
    exact ⟨fun _ => no, fun p1 => ⟨fun _ => no, fun p2 => ⟨fun _ => no, fun p3 => ⟨fun p4 => absurd ⟨⟨p1, p2⟩, p3, p4⟩ hp, fun _ => no⟩⟩⟩⟩
end X8k
