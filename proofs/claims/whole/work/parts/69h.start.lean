-- THE START: Ok G
set_option maxRecDepth 100000
set_option maxHeartbeats 4000000
section Start2
theorem st_gam {A : Array Value} {s : State} (l : Launch) {b L : Nat} {xs : Nat → Int32} (hts : ∀ w ∈ lw_tbl, w.before A s = true) (hX : va_X b L xs s s.heap) (hs : ∀ w ∈ NL, w.before A s = true) : ∃ (dC : Nat → ClassId) (dI : Nat → Nat → Nat) (aC : Nat → ClassId) (od : Nat → Nat), od 3 = b ∧ Ok (stG l s dC dI aC od (stOc L xs) A) := by
  obtain ⟨aC, hA1, kA, hA2, hA3⟩ := st_acl hts
  have hc : ∀ ci : Nat, ∃ q : ClassId × (Nat → Nat), ci < 10 → u_Kn s (clN ci) (clT ci) (clK ci) q.1 q.2 := by
    intro ci
    by_cases h : ci < 10
    · obtain ⟨c, i, h1⟩ := u_known (C := clN ci) (T := clT ci) (N := clK ci) (n := clK ci) hts (clIn ci h) (hts _ (st_ni ci h))
      exact ⟨(c, i), fun _ => h1⟩
    · exact ⟨(0, fun _ => 0), fun q => absurd q h⟩
  obtain ⟨cq, hcq⟩ := Classical.axiomOfChoice hc
  have hst : ∀ j : Nat, ∃ q : Nat × Nat, j < 13 → (tR j).eval A s none [] s = some (.ref q.1) ∧ va_O "java/lang/String" q.1 (fun _ => False) s s.heap ∧ va_OF "java/lang/String" "coder" "B" (.int 0) q.1 (fun _ => False) s s.heap ∧ va_OF "java/lang/String" "value" "[B" (.ref q.2) q.1 (fun _ => False) s s.heap ∧ va_T .byte q.2 (wds j).length (fun i => .int (nI ((wds j).getD i 0))) (fun _ => False) s s.heap := by
    intro j
    by_cases h : j < 13
    · obtain ⟨a, t, h1⟩ := st_str hs h
      exact ⟨(a, t), fun _ => h1⟩
    · exact ⟨(0, 0), fun q => absurd q h⟩
  obtain ⟨qa, had⟩ := Classical.axiomOfChoice hst
  obtain ⟨-, ⟨cell0, -, -, hcS, -⟩, ⟨cfC, kfC, fiC, fdC, -, f1, f2, -⟩, ⟨cfV, kfV, fiV, fdV, -, g1, g2, -⟩, -⟩ := had 0 (by omega)
  obtain ⟨ax, hx1, hx2⟩ := va_Tof (f := fun i => .int (bxF i)) (A := fun _ => False) (N := 4) (by decide) (hs _ st_bxa) (va_eqt (hs _ st_bxl)) (fun i hi => va_eqt (hs _ (st_bx i hi))) (fun _ _ h => h)
  obtain ⟨ay, hy1, hy2⟩ := va_Tof (f := fun i => .int (byF i)) (A := fun _ => False) (N := 4) (by decide) (hs _ st_bya) (va_eqt (hs _ st_byl)) (fun i hi => va_eqt (hs _ (st_by i hi))) (fun _ _ h => h)
  obtain ⟨a2, hz⟩ : ∃ a2 : Nat, va_Z (stN 3).1 (stN 3).2.1 (stN 3).2.2 .null (fun _ => False) s s.heap ∨ va_Z (stN 3).1 (stN 3).2.1 (stN 3).2.2 (.ref a2) (fun _ => False) s s.heap := by
    rcases va_Zqof (A := fun _ => False) (hts _ (st_lys 3 (by omega))) (hts _ (st_in 3 (by omega))) (hs _ st_fm) (fun _ _ h => h) with h | ⟨t, h⟩
    · exact ⟨0, Or.inl h⟩
    · exact ⟨t, Or.inr h⟩
  obtain ⟨dC, hdC, hdC10⟩ : ∃ dC : Nat → ClassId, (∀ ci, ci < 10 → dC ci = (cq ci).1) ∧ dC 10 = cell0.cls := ⟨fun k => if k < 10 then (cq k).1 else cell0.cls, fun ci h => if_pos h, if_neg (by omega)⟩
  obtain ⟨dI, hdI, hdV, hdO⟩ : ∃ dI : Nat → Nat → Nat, (∀ ci, ci < 10 → dI ci = (cq ci).2) ∧ dI 10 0 = fdV.slot ∧ dI 10 1 = fdC.slot := ⟨fun k => if k < 10 then (cq k).2 else fun i => if i = 0 then fdV.slot else fdC.slot, fun ci h => if_pos h, rfl, rfl⟩
  obtain ⟨od, o0, o1, o2, o3, hK, hV⟩ : ∃ od : Nat → Nat, od 0 = ax ∧ od 1 = ay ∧ od 2 = a2 ∧ od 3 = b ∧ (∀ j, od (10 + 2 * j) = (qa j).1) ∧ ∀ j, od (11 + 2 * j) = (qa j).2 := ⟨stOd (fun j => (qa j).1) (fun j => (qa j).2) ax ay a2 b, rfl, rfl, rfl, rfl, fun j => stOd_s, fun j => stOd_b⟩
  have hshO : ∀ k : Nat, 1000000 ≤ k → sh (stG l s dC dI aC od (stOc L xs) A) (.ref k) = .ref (od (k - 1000000)) := by
    intro k hk
    have ho : ¬ k < OLD := by unfold OLD; omega
    rw [sh_ref, ad, if_neg ho]
    rfl
  refine ⟨dC, dI, aC, od, o3, hts, fun ci h => ?_, hA1, fun k hk => ?_, ⟨fun j hj => ?_, ?_⟩, fun own idx tx j hw hj => ?_, fun k hk => ?_, ⟨cfV, kfV, fiV, fdV, g1, g2⟩, ⟨cfC, kfC, fiC, fdC, f1, f2⟩, ?_, kA, hA2, hA3⟩
  · show u_Kn s (clN ci) (clT ci) (clK ci) (dC ci) (dI ci)
    rw [hdC ci h, hdI ci h]
    exact hcq ci h
  · show stOc L xs k = junk ∨ (od (k - OLD) < s.heap.size ∧ ∃ ce, s.heap[od (k - OLD)]? = some ce ∧ CelO (stG l s dC dI aC od (stOc L xs) A) (stOc L xs k) ce)
    rcases stOc_c (L := L) (xs := xs) k with rfl | rfl | rfl | ⟨j, hj, rfl⟩ | ⟨j, hj, rfl⟩ | h
    · refine Or.inr ?_
      rw [show 1000000 - OLD = 0 from rfl, o0, stOc_0]
      exact st_T (G := stG l s dC dI aC od (stOc L xs) A) (t := 0) hx2
    · refine Or.inr ?_
      rw [show 1000001 - OLD = 1 from rfl, o1, stOc_1]
      exact st_T (G := stG l s dC dI aC od (stOc L xs) A) (t := 0) hy2
    · refine Or.inr ?_
      rw [show 1000003 - OLD = 3 from rfl, o3, stOc_3]
      obtain ⟨scr, h1, h2, h3, h4, h5⟩ := hX
      exact ⟨(Array.getElem?_eq_some_iff.mp h1).1, scr, h1, h2, h3, Nat.le_of_eq h4.symm, by rw [h4], h5⟩
    · refine Or.inr ?_
      rw [show 1000010 + 2 * j - OLD = 10 + 2 * j by unfold OLD; omega, hK, stOc_s hj]
      obtain ⟨-, ⟨ce, p1, p2, p3, -⟩, ⟨cf1, kf1, fi1, fd1, ce1, p4, -, p5, p6, p7, -⟩, ⟨cf2, kf2, fi2, fd2, ce2, p8, -, p9, -, p10, -⟩, -⟩ := had j hj
      cases p1.symm.trans p5
      cases p1.symm.trans p9
      cases f1.symm.trans p4
      cases g1.symm.trans p8
      refine ⟨(Array.getElem?_eq_some_iff.mp p1).1, ce, p1, ?_, p2, p6, fun k hk => ?_⟩
      · show ce.cls = dC 10
        rw [hdC10]
        exact Option.some.inj (p3.symm.trans hcS)
      · have hk2 : k < 2 := hk
        rcases (by omega : k = 0 ∨ k = 1) with rfl | rfl
        · show ce.slots[dI 10 0]? = some (sh (stG l s dC dI aC od (stOc L xs) A) (.ref (1000011 + 2 * j)))
          rw [hshO (1000011 + 2 * j) (by omega), show 1000011 + 2 * j - 1000000 = 11 + 2 * j by omega, hV, hdV]
          exact p10
        · show ce.slots[dI 10 1]? = some (.int 0)
          rw [hdO]
          exact p7
    · refine Or.inr ?_
      rw [show 1000011 + 2 * j - OLD = 11 + 2 * j by unfold OLD; omega, hV, stOc_b hj]
      exact st_T (G := stG l s dC dI aC od (stOc L xs) A) (t := 1) (had j hj).2.2.2.2
    · exact Or.inl h
  · rcases (by omega : j = 0 ∨ j = 1 ∨ j = 2) with rfl | rfl | rfl
    · refine st_stat ?_
      rw [show sv 0 = .ref 1000000 from rfl, hshO 1000000 (by omega), show 1000000 - 1000000 = 0 from rfl, o0]
      exact va_Zof (hts _ (st_lys 0 (by omega))) (hts _ (st_in 0 (by omega))) hx1 (fun _ _ h => h)
    · refine st_stat ?_
      rw [show sv 1 = .ref 1000001 from rfl, hshO 1000001 (by omega), show 1000001 - 1000000 = 1 from rfl, o1]
      exact va_Zof (hts _ (st_lys 1 (by omega))) (hts _ (st_in 1 (by omega))) hy1 (fun _ _ h => h)
    · refine st_stat ?_
      rw [show sv 2 = .int 1 from rfl, sh_int]
      exact va_Zof (hts _ (st_lys 2 (by omega))) (hts _ (st_in 2 (by omega))) (va_eqi (hs _ st_cs)) (fun _ _ h => h)
  · rcases hz with h | h
    · exact Or.inl (st_stat h)
    · refine Or.inr (st_stat ?_)
      rw [hshO 1000002 (by omega), show 1000002 - 1000000 = 2 from rfl, o2]
      exact h
  · have hj13 : j < 13 := (List.getElem?_eq_some_iff.mp hj).1
    rcases st_sr (own, idx, tx) (List.mem_filterMap.mpr ⟨_, hw, rfl⟩) j hj13 hj with ⟨h1, h2⟩ | ⟨h1, h2⟩
    · dsimp only at h1 h2
      subst h1 h2
      refine vk_R.of (hts _ hw) ?_
      show (tR j).eval A s none [] s = some (.ref (od (10 + 2 * j)))
      rw [hK]
      exact (had j hj13).1
    · dsimp only at h1 h2
      subst h1 h2
      refine vk_R.of (hts _ hw) ?_
      show (tM j).eval A s none [] s = some (.ref (od (10 + 2 * j)))
      rw [hK]
      exact st_eq (hs _ (st_rm j hj13)) (had j hj13).1
  · rcases (by omega : k = 0 ∨ k = 1) with rfl | rfl
    · exact ⟨cfV, kfV, fiV, fdV, g1, hdV.symm⟩
    · exact ⟨cfC, kfC, fiC, fdC, f1, hdO.symm⟩
  · show s.vm.findClass "java/lang/String" = some (dC 10)
    rw [hdC10]
    exact hcS
theorem st_room {s : State} {pl : Platform} {r r' : Room} (hf : r.frames ≤ r'.frames) (hl : r.locals ≤ r'.locals) (hc : r.cells ≤ r'.cells) (hs : r.slots ≤ r'.slots) (h : s.hasRoom pl r' = true) : s.hasRoom pl r = true := by
  simp only [State.hasRoom, Bool.and_eq_true, decide_eq_true_eq] at h ⊢
  obtain ⟨⟨⟨⟨y, a, b, c, d, e⟩, f⟩, g⟩, i⟩ := h
  exact ⟨⟨⟨⟨by omega, by omega, by omega, by omega, by omega, e⟩, by omega⟩, by omega⟩, i⟩
end Start2
