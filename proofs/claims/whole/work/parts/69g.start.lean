-- THE START: what the Statement's premises say of the state at the law's entry
set_option maxRecDepth 100000
set_option maxHeartbeats 4000000
section Start
def NL : List Cond := flatC (Jvm.Cond.and given_1 narrow_1)
def iR (j : Nat) : Nat := [120, 126, 138, 124, 132, 130, 122, 118, 110, 128, 116, 134, 136].getD j 0
def iM (j : Nat) : Nat := [163, 145, 157, 139, 151, 149, 165, 161, 167, 147, 159, 153, 155].getD j 0
abbrev tR (j : Nat) : Term := .string "FarFromAnybody$Reader" (iR j)
abbrev tM (j : Nat) : Term := .string "FarFromAnybodyModel" (iM j)
abbrev tVl (j : Nat) : Term := .field (tR j) "java/lang/String" "value" "[B"
theorem st_ex : ∀ j, j < 13 → Cond.exactly (tR j) "java/lang/String" ∈ NL := by decide +kernel
theorem st_co : ∀ j, j < 13 → Cond.eq (.field (tR j) "java/lang/String" "coder" "B") (.int 0) ∈ NL := by decide +kernel
theorem st_ar : ∀ j, j < 13 → Cond.arrayOf (tVl j) .byte ∈ NL := by decide +kernel
theorem st_le : ∀ j, j < 13 → Cond.eq (.length (tVl j)) (.int (Int32.ofNat (wds j).length)) ∈ NL := by decide +kernel
theorem st_el : ∀ j, j < 13 → ∀ i, i < (wds j).length → Cond.eq (.elem (tVl j) (.int (Int32.ofNat i))) (.int (nI ((wds j).getD i 0))) ∈ NL := by decide +kernel
theorem st_rm : ∀ j, j < 13 → Cond.eq (tR j) (tM j) ∈ NL := by decide +kernel
theorem st_wl : ∀ j, j < 13 → (wds j).length < 100 := by decide +kernel
abbrev tBX : Term := .static "FarFromAnybody$Ways" "BESIDE_X" "[I"
abbrev tBY : Term := .static "FarFromAnybody$Ways" "BESIDE_Y" "[I"
theorem st_bx : ∀ i, i < 4 → Cond.eq (.elem tBX (.int (Int32.ofNat i))) (.int (bxF i)) ∈ NL := by decide +kernel
theorem st_by : ∀ i, i < 4 → Cond.eq (.elem tBY (.int (Int32.ofNat i))) (.int (byF i)) ∈ NL := by decide +kernel
theorem st_bxa : Cond.arrayOf tBX .int ∈ NL := by decide +kernel
theorem st_bya : Cond.arrayOf tBY .int ∈ NL := by decide +kernel
theorem st_bxl : Cond.eq (.length tBX) (.int (Int32.ofNat 4)) ∈ NL := by decide +kernel
theorem st_byl : Cond.eq (.length tBY) (.int (Int32.ofNat 4)) ∈ NL := by decide +kernel
theorem st_cs : Cond.eq (.static "java/lang/String" "COMPACT_STRINGS" "Z") (.int 1) ∈ NL := by decide +kernel
theorem st_fm : Cond.isRef (.static "jdk/internal/util/Preconditions" "SIOOBE_FORMATTER" "Ljava/util/function/BiFunction;") ∈ NL := by decide +kernel
theorem st_lys : ∀ j, j < 4 → Cond.laysStatic (stN j).1 (stN j).2.1 (stN j).2.2 ∈ lw_tbl := by decide +kernel
theorem st_in : ∀ j, j < 4 → Cond.initialized (stN j).1 ∈ lw_tbl := by decide +kernel
theorem st_ni : ∀ ci, ci < 10 → Cond.instantiable (clN ci) (clK ci) ∈ lw_tbl := by decide +kernel
theorem st_w0 : Cond.arrayClass .int ∈ lw_tbl := by decide +kernel
theorem st_w1 : Cond.arrayClass .byte ∈ lw_tbl := by decide +kernel
theorem st_w2 : Cond.arrayClass .boolean ∈ lw_tbl := by decide +kernel
theorem st_w3 : Cond.arrayOver (.array .byte) ∈ lw_tbl := by decide +kernel
-- the String constants of the tables
def isSR : Cond → Option (String × Nat × String)
  | .stringRef o i t => some (o, i, t)
  | _ => none
def SRL : List (String × Nat × String) := lw_tbl.filterMap isSR
theorem st_sr : ∀ q ∈ SRL, ∀ j, j < 13 → stxt[j]? = some q.2.2 → (q.1 = "FarFromAnybody$Reader" ∧ q.2.1 = iR j) ∨ (q.1 = "FarFromAnybodyModel" ∧ q.2.1 = iM j) := by decide +kernel
theorem st_eq {A : Array Value} {s : State} {t u : Term} {a : Nat} (h : (Cond.eq t u).before A s = true) (ht : t.eval A s none [] s = some (.ref a)) : u.eval A s none [] s = some (.ref a) := by
  cases hv : u.eval A s none [] s with
  | none => simp [Cond.before, Cond.holds, Cond.value, ht, hv] at h
  | some w =>
    simp only [Cond.before, Cond.holds, Cond.value, ht, hv] at h
    cases w <;> simp_all
theorem st_str {A : Array Value} {s : State} (hs : ∀ w ∈ NL, w.before A s = true) {j : Nat} (hj : j < 13) : ∃ a t : Nat, (tR j).eval A s none [] s = some (.ref a) ∧ va_O "java/lang/String" a (fun _ => False) s s.heap ∧ va_OF "java/lang/String" "coder" "B" (.int 0) a (fun _ => False) s s.heap ∧ va_OF "java/lang/String" "value" "[B" (.ref t) a (fun _ => False) s s.heap ∧ va_T .byte t (wds j).length (fun i => .int (nI ((wds j).getD i 0))) (fun _ => False) s s.heap := by
  obtain ⟨a, c, cA, kA, q1, q2, q3, q4, q5, q6, -⟩ := Cond.exactly_spec (args := A) (first := s) (o := none) (s := s) (idx := []) (t := tR j) (cls := "java/lang/String") (hs _ (st_ex j hj))
  obtain ⟨t, ht, hT⟩ := va_Tof (f := fun i => .int (nI ((wds j).getD i 0))) (A := fun _ => False) (Nat.lt_of_lt_of_le (st_wl j hj) (by decide)) (hs _ (st_ar j hj)) (va_eqt (hs _ (st_le j hj))) (fun i hi => va_eqt (hs _ (st_el j hj i hi))) (fun _ _ h => h)
  exact ⟨a, t, q1, ⟨cA, q3, q5, by rw [q6]; exact q2, fun h => h⟩, vk_OFof q1 (va_eqt (hs _ (st_co j hj))) (fun _ _ h => h), vk_OFof q1 ht (fun _ _ h => h), hT⟩
theorem st_over {A : Array Value} {s : State} (h : (Cond.arrayOver (.array .byte)).before A s = true) : ∃ comp c k, s.vm.findClass (FieldType.array .byte).toString = some comp ∧ s.vm.classes[c]? = some k ∧ k.kind = .array comp (.array .byte) ∧ s.vm.findClass ("[" ++ (FieldType.array .byte).toString) = some c := by
  simp only [Cond.before, Cond.holds, Cond.value, beq_iff_eq] at h
  cases hc : s.vm.findClass (FieldType.array .byte).toString with
  | none => simp [hc] at h
  | some comp =>
    simp only [hc, Option.bind_some, Option.bind_eq_some_iff, Option.map_eq_some_iff] at h
    obtain ⟨c, hi, k, hk, hb⟩ := h
    obtain ⟨hlt, hp, -⟩ := Array.findIdx?_eq_some_iff_getElem.mp hi
    have hkk : s.vm.classes[c] = k := (Array.getElem?_eq_some_iff.mp hk).2
    rw [hkk] at hp
    cases hkind : k.kind with
    | array component ty =>
      rw [hkind] at hb hp
      simp at hb hp
      exact ⟨comp, c, k, rfl, hk, by rw [hkind, hp, hb.1], hb.2⟩
    | _ => rw [hkind] at hb; simp at hb
theorem st_acl {A : Array Value} {s : State} (hts : ∀ w ∈ lw_tbl, w.before A s = true) : ∃ aC : Nat → ClassId, (∀ t, t < 4 → ArrOfT s (aC t) (aT t) ∧ s.vm.findClass ("[" ++ (aT t).toString) = some (aC t)) ∧ ∃ kA : Class, s.vm.classes[aC 3]? = some kA ∧ kA.kind = .array (aC 1) (.array .byte) := by
  obtain ⟨c0, k0, m0, a1, a2, a3⟩ := Cond.arrayClass_spec (args := A) (first := s) (o := none) (s := s) (idx := []) (type := .int) (hts _ st_w0)
  obtain ⟨c1, k1, m1, b1, b2, b3⟩ := Cond.arrayClass_spec (args := A) (first := s) (o := none) (s := s) (idx := []) (type := .byte) (hts _ st_w1)
  obtain ⟨c2, k2, m2, d1, d2, d3⟩ := Cond.arrayClass_spec (args := A) (first := s) (o := none) (s := s) (idx := []) (type := .boolean) (hts _ st_w2)
  obtain ⟨cp, c3, k3, e1, e2, e3, e4⟩ := st_over (hts _ st_w3)
  have hcp : cp = c1 := Option.some.inj (e1.symm.trans b1)
  subst hcp
  refine ⟨fun t => match t with | 0 => c0 | 1 => cp | 2 => c2 | _ => c3, fun t ht => ?_, k3, e2, e3⟩
  match t, ht with
  | 0, _ => exact ⟨fun n z => ⟨(fun k h => by cases h), k0, a2, m0, a3⟩, a1⟩
  | 1, _ => exact ⟨fun n z => ⟨(fun k h => by cases h), k1, b2, m1, b3⟩, b1⟩
  | 2, _ => exact ⟨fun n z => ⟨(fun k h => by cases h), k2, d2, m2, d3⟩, d1⟩
  | 3, _ => exact ⟨fun n z => ⟨(fun k h => by cases h), k3, e2, cp, e3⟩, e4⟩
  | n + 4, h => exact absurd h (by omega)
-- the places of what was there before
def stOd (aK aV : Nat → Nat) (ax ay a2 b : Nat) : Nat → Nat := fun k => if k = 0 then ax else if k = 1 then ay else if k = 2 then a2 else if k = 3 then b else if k % 2 = 0 then aK ((k - 10) / 2) else aV ((k - 11) / 2)
def stOc (L : Nat) (xs : Nat → Int32) : Mf := fun k => if k = 1000000 then cI 4 bxF else if k = 1000001 then cI 4 byF else if k = 1000003 then cI L xs else if k < 1000010 then junk else if 1000036 ≤ k then junk else if k % 2 = 0 then cO 10 [.ref (k + 1), .int 0] else cB (wds ((k - 1000011) / 2)).length (fun i => nI ((wds ((k - 1000011) / 2)).getD i 0))
theorem stOd_s {aK aV : Nat → Nat} {ax ay a2 b j : Nat} : stOd aK aV ax ay a2 b (10 + 2 * j) = aK j := by
  unfold stOd
  rw [if_neg (by omega), if_neg (by omega), if_neg (by omega), if_neg (by omega), if_pos (by omega), show (10 + 2 * j - 10) / 2 = j by omega]
theorem stOd_b {aK aV : Nat → Nat} {ax ay a2 b j : Nat} : stOd aK aV ax ay a2 b (11 + 2 * j) = aV j := by
  unfold stOd
  rw [if_neg (by omega), if_neg (by omega), if_neg (by omega), if_neg (by omega), if_neg (by omega), show (11 + 2 * j - 11) / 2 = j by omega]
theorem stOc_0 {L : Nat} {xs : Nat → Int32} : stOc L xs 1000000 = cI 4 bxF := by
  unfold stOc
  rw [if_pos rfl]
theorem stOc_1 {L : Nat} {xs : Nat → Int32} : stOc L xs 1000001 = cI 4 byF := by
  unfold stOc
  rw [if_neg (by omega), if_pos rfl]
theorem stOc_3 {L : Nat} {xs : Nat → Int32} : stOc L xs 1000003 = cI L xs := by
  unfold stOc
  rw [if_neg (by omega), if_neg (by omega), if_pos rfl]
theorem stOc_s {L : Nat} {xs : Nat → Int32} {j : Nat} (hj : j < 13) : stOc L xs (1000010 + 2 * j) = cO 10 [.ref (1000011 + 2 * j), .int 0] := by
  unfold stOc
  rw [if_neg (by omega), if_neg (by omega), if_neg (by omega), if_neg (by omega), if_neg (by omega), if_pos (by omega), show 1000010 + 2 * j + 1 = 1000011 + 2 * j by omega]
theorem stOc_b {L : Nat} {xs : Nat → Int32} {j : Nat} (hj : j < 13) : stOc L xs (1000011 + 2 * j) = cB (wds j).length (fun i => nI ((wds j).getD i 0)) := by
  unfold stOc
  rw [if_neg (by omega), if_neg (by omega), if_neg (by omega), if_neg (by omega), if_neg (by omega), if_neg (by omega), show (1000011 + 2 * j - 1000011) / 2 = j by omega]
theorem stOc_j {L : Nat} {xs : Nat → Int32} {k : Nat} (hk : k < 1000000) : stOc L xs k = junk := by
  unfold stOc
  rw [if_neg (by omega), if_neg (by omega), if_neg (by omega), if_pos (by omega)]
theorem stOc_c {L : Nat} {xs : Nat → Int32} (k : Nat) : k = 1000000 ∨ k = 1000001 ∨ k = 1000003 ∨ (∃ j, j < 13 ∧ k = 1000010 + 2 * j) ∨ (∃ j, j < 13 ∧ k = 1000011 + 2 * j) ∨ stOc L xs k = junk := by
  by_cases h0 : k = 1000000
  · exact Or.inl h0
  by_cases h1 : k = 1000001
  · exact Or.inr (Or.inl h1)
  by_cases h2 : k = 1000003
  · exact Or.inr (Or.inr (Or.inl h2))
  by_cases h3 : k < 1000010
  · refine Or.inr (Or.inr (Or.inr (Or.inr (Or.inr ?_))))
    unfold stOc
    rw [if_neg h0, if_neg h1, if_neg h2, if_pos h3]
  by_cases h4 : 1000036 ≤ k
  · refine Or.inr (Or.inr (Or.inr (Or.inr (Or.inr ?_))))
    unfold stOc
    rw [if_neg h0, if_neg h1, if_neg h2, if_neg h3, if_pos h4]
  by_cases h5 : k % 2 = 0
  · exact Or.inr (Or.inr (Or.inr (Or.inl ⟨(k - 1000010) / 2, by omega, by omega⟩)))
  · exact Or.inr (Or.inr (Or.inr (Or.inr (Or.inl ⟨(k - 1000011) / 2, by omega, by omega⟩))))
theorem st_strA {L : Nat} {xs : Nat → Int32} : StrA (stOc L xs) := fun j hj => ⟨stOc_s hj, _, stOc_b hj, fun _ _ => rfl⟩
theorem st_stat {G : Gam} {j : Nat} {v : Value} (h : va_Z (stN j).1 (stN j).2.1 (stN j).2.2 (sh G v) (fun _ => False) G.s G.s.heap) : StatOk G j v := by
  obtain ⟨cf, kf, fi, f, a, cell, h1, h2, h3, h4, h5, h6, h7, h8⟩ := h
  exact ⟨cf, kf, fi, f, a, cell, h1, h2, h3, h4, (Array.getElem?_eq_some_iff.mp h5).1, h5, (fun e => by rw [e] at h6; cases h6), h7⟩
theorem st_T {G : Gam} {t a N : Nat} {f : Nat → Int32} (h : va_T (aT t) a N (fun j => .int (f j)) (fun _ => False) G.s G.s.heap) : a < G.s.heap.size ∧ ∃ ce, G.s.heap[a]? = some ce ∧ CelO G (.inl (t, N, f)) ce := by
  obtain ⟨ce, h1, h2, h3, h4, h5, h6, -⟩ := h
  exact ⟨(Array.getElem?_eq_some_iff.mp h1).1, ce, h1, h2, h3, h4, h5, h6⟩
abbrev stG (l : Launch) (s : State) (dC : Nat → ClassId) (dI : Nat → Nat → Nat) (aC : Nat → ClassId) (od : Nat → Nat) (oc : Mf) (A : Array Value) : Gam := (l, s, dC, dI, aC, od, oc, A)
end Start
