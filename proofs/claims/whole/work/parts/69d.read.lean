-- Reader: the law at last
set_option maxRecDepth 100000
set_option maxHeartbeats 4000000
def lwW : Lns → Fa → Int32 → Int32
  | [], _, x => x
  | (ev, c) :: ls, F, x => if cdT c F = true then ev F else lwW ls F x
theorem lwW_0 : ∀ (ls : Lns) (F : Fa), lwW ls F 0 = lwV ls F
  | [], _ => rfl
  | (ev, c) :: ls, F => by rw [lwW, lwV, lwW_0 ls F]
theorem lwW_ap : ∀ (ls : Lns) (F : Fa) (l : EV × Option BV) (x : Int32), lwW (ls ++ [l]) F x = lwW ls F (if cdT l.2 F = true then l.1 F else x)
  | [], _, _, _ => rfl
  | (ev, c) :: ls, F, l, x => by rw [List.cons_append, lwW, lwW, lwW_ap ls F l x]
abbrev lR (st : Nat → Int32) (F : Fa) (n i : Nat) (R : Rg) : Int32 := lawRun (kdO st) (vlO st) F n i R.1 R.2.1 R.2.2.1 R.2.2.2.1 R.2.2.2.2
/-- the steps so far are the lines so far -/
def LwI (st : Nat → Int32) (c : Nat) (ls : Lns) : Prop := (∀ i, i < c → enS st i) ∧ ∀ st', (∀ i, i < c → st' i = st i) → ∀ F n, ∃ R : Rg, R.2.2.2.2 = Int64.ofNat 0 ∧ lR st' F (c + n) 0 (0, 0, 0, 0, Int64.ofNat 0) = lwW ls F (lR st' F n c R)
theorem LwI.nil (st : Nat → Int32) : LwI st 0 [] := ⟨fun i h => absurd h (Nat.not_lt_zero i), fun st' _ F n => ⟨(0, 0, 0, 0, Int64.ofNat 0), rfl, by rw [Nat.zero_add]; rfl⟩⟩
theorem LwI.cong {st st1 : Nat → Int32} {c : Nat} {ls : Lns} (h : LwI st c ls) (he : ∀ i, i < c → st1 i = st i) : LwI st1 c ls := ⟨fun i hi => (enS_cong (h.1 i hi) (he i hi)).1, fun st' h' => h.2 st' (fun i hi => (h' i hi).trans (he i hi))⟩
theorem lR_seg {st : Nat → Int32} {F : Fa} {c c' n : Nat} {R : Rg} (h : seg st c c') : lR st F (c' - c + n) c R = lR st F n c' (rS st F c c' R) := by
  have := h.1
  have e := lawRun_rgS (kd := kdO st) (vl := vlO st) (F := F) (n := n) (c' - c) c R (fun j h1 h2 => (h.2 j h1 (by omega)).2)
  rw [show c + (c' - c) = c' by omega] at e
  exact e
theorem lR_14 {st : Nat → Int32} {F : Fa} {c n : Nat} {R : Rg} (h : kdO st c = 14) {b : Bool} (hb : R.2.2.2.2 = Int64.ofNat (2 * 0 + b2n b)) : lR st F (n + 1) c R = if b = true then R.2.2.2.1 else lR st F n (c + 1) (R.1, R.2.1, R.2.2.1, R.2.2.2.1, Int64.ofNat 0) := by
  show lawRun _ _ F (n + 1) c _ _ _ _ _ = _
  rw [lawRun, h]
  show (if lg_cmp (R.2.2.2.2 &&& Int64.ofNat 1) (Int64.ofNat 0) = 0 then lawRun (kdO st) (vlO st) F n (c + 1) R.1 R.2.1 R.2.2.1 R.2.2.2.1 (Int64.ofNat 0) else R.2.2.2.1) = _
  rw [hb]
  cases b with
  | true => rw [if_neg (fun q => by have := (j_when (t := 0) (b := true) (by decide)).mp q; cases this), if_pos rfl]
  | false => rw [if_pos ((j_when (t := 0) (b := false) (by decide)).mpr rfl), if_neg (by decide)]
theorem lR_15 {st : Nat → Int32} {F : Fa} {c n : Nat} {R : Rg} (h : kdO st c = 15) : lR st F (n + 1) c R = R.2.2.2.1 := by
  show lawRun _ _ F (n + 1) c _ _ _ _ _ = _
  rw [lawRun, h]
  rfl
/-- a line with a claim -/
theorem LwI.when {st : Nat → Int32} {c c1 c2 k k1 kb k2 bd : Nat} {ls : Lns} {ev : EV} {b : BV} (h : LwI st c ls) (hE : behE k c st k1 c1 ev) (h6 : st c1 = nI (65536 * 6 + 0)) (hB : behB bd kb (c1 + 1) st k2 c2 b) (h14 : st c2 = nI (65536 * 14 + 0)) : LwI st (c2 + 1) (ls ++ [(ev, some b)]) := by
  obtain ⟨⟨s1, -⟩, e1⟩ := hE
  obtain ⟨s2, e2⟩ := seg.one (st := st) (c := c1) h6 (by omega) (by omega)
  obtain ⟨⟨s3, -⟩, e3⟩ := hB
  obtain ⟨n4, k4, v4⟩ := enS_of h14 (by omega) (by omega)
  have l1 := s1.1
  have l3 := s3.1
  refine ⟨fun i hi => ?_, fun st' he F n => ?_⟩
  · by_cases q : i < c
    · exact h.1 i q
    · by_cases q1 : i < c1
      · exact (s1.2 i (by omega) q1).1
      · by_cases q2 : i < c1 + 1
        · exact (s2.2 i (by omega) q2).1
        · by_cases q3 : i < c2
          · exact (s3.2 i (by omega) q3).1
          · have : i = c2 := by omega
            rw [this]; exact n4
  · obtain ⟨R, hR, hr⟩ := h.2 st' (fun i hi => he i (by omega)) F (c1 - c + (1 + (c2 - (c1 + 1) + (n + 1))))
    obtain ⟨a1, a2⟩ := s1.cong (st' := st') (fun i hi => he i (by omega))
    obtain ⟨b1, b2⟩ := s2.cong (st' := st') (fun i hi => he i (by omega))
    obtain ⟨d1, d2⟩ := s3.cong (st' := st') (fun i hi => he i (by omega))
    obtain ⟨f1, f2, f3⟩ := enS_cong n4 (he c2 (by omega))
    obtain ⟨pr, hp⟩ := e1 F R
    obtain ⟨p2, su, le, h3⟩ := e3 F (pr, ev F, R.2.2.1, ev F, R.2.2.2.2) 0 hR (Nat.two_pow_pos _)
    have x1 := lR_seg (F := F) (n := 1 + (c2 - (c1 + 1) + (n + 1))) (R := R) a1
    have x2 := lR_seg (F := F) (n := c2 - (c1 + 1) + (n + 1)) (R := (pr, ev F, R.2.2)) b1
    have x3 := lR_seg (F := F) (n := n + 1) (R := (pr, ev F, R.2.2.1, ev F, R.2.2.2.2)) d1
    rw [show c1 + 1 - c1 = 1 by omega, b2, e2] at x2
    rw [d2, h3] at x3
    rw [a2, hp, x2] at x1
    have x4 := lR_14 (st := st') (F := F) (n := n) (c := c2) (R := (p2, su, le, ev F, Int64.ofNat (2 * 0 + b2n (b F)))) (by rw [f2, k4]) rfl
    refine ⟨(p2, su, le, ev F, Int64.ofNat 0), rfl, ?_⟩
    rw [show c2 + 1 + n = c + (c1 - c + (1 + (c2 - (c1 + 1) + (n + 1)))) by omega, hr, lwW_ap, x1]
    congr 1
    exact x3.trans x4
/-- a line with none -/
theorem LwI.alw {st : Nat → Int32} {c c1 k k1 : Nat} {ls : Lns} {ev : EV} (h : LwI st c ls) (hE : behE k c st k1 c1 ev) (h6 : st c1 = nI (65536 * 6 + 0)) (h15 : st (c1 + 1) = nI (65536 * 15 + 0)) : LwI st (c1 + 2) (ls ++ [(ev, none)]) := by
  obtain ⟨⟨s1, -⟩, e1⟩ := hE
  obtain ⟨s2, e2⟩ := seg.one (st := st) (c := c1) h6 (by omega) (by omega)
  obtain ⟨n4, k4, v4⟩ := enS_of h15 (by omega) (by omega)
  have l1 := s1.1
  refine ⟨fun i hi => ?_, fun st' he F n => ?_⟩
  · by_cases q : i < c
    · exact h.1 i q
    · by_cases q1 : i < c1
      · exact (s1.2 i (by omega) q1).1
      · by_cases q2 : i < c1 + 1
        · exact (s2.2 i (by omega) q2).1
        · have : i = c1 + 1 := by omega
          rw [this]; exact n4
  · obtain ⟨R, hR, hr⟩ := h.2 st' (fun i hi => he i (by omega)) F (c1 - c + (1 + (n + 1)))
    obtain ⟨a1, a2⟩ := s1.cong (st' := st') (fun i hi => he i (by omega))
    obtain ⟨b1, b2⟩ := s2.cong (st' := st') (fun i hi => he i (by omega))
    obtain ⟨f1, f2, f3⟩ := enS_cong n4 (he (c1 + 1) (by omega))
    obtain ⟨pr, hp⟩ := e1 F R
    have x1 := lR_seg (F := F) (n := 1 + (n + 1)) (R := R) a1
    have x2 := lR_seg (F := F) (n := n + 1) (R := (pr, ev F, R.2.2)) b1
    rw [show c1 + 1 - c1 = 1 by omega, b2, e2] at x2
    rw [a2, hp, x2] at x1
    have x4 := lR_15 (st := st') (F := F) (n := n) (c := c1 + 1) (R := (pr, ev F, R.2.2.1, ev F, R.2.2.2.2)) (by rw [f2, k4])
    refine ⟨(0, 0, 0, 0, Int64.ofNat 0), rfl, ?_⟩
    rw [show c1 + 2 + n = c + (c1 - c + (1 + (n + 1))) by omega, hr, lwW_ap, x1]
    congr 1
section Rd6
variable {G : Gam} {d n z : Nat} {f : Mf}
theorem t_copyOf (hG : Ok G) (hd1 : 1 ≤ d) {p N c : Nat} {st : Nat → Int32} (hp : f p = cI N st) (hpn : p < n) (hN : N < 10000) (hc : c < N) (hn : n < CAP) (hz : z + c ≤ SCAP) : Tr G d 7 [.ref p, .int (nI c)] n z f (fun v n' z' f' => v = some (.ref n) ∧ n' = n + 1 ∧ z' = z + c ∧ ∃ st', (∀ i, i < c → st' i = st i) ∧ f' = upC f n (cI c st')) := by
  have hCAP : CAP = 600000 := rfl
  have hSCAP : SCAP = 7302249 := rfl
  have hcc : (nI c).toNatClampNeg = c := nI_clamp (by omega)
  refine Tr.of2 (ls0 := [.ref p, .int (nI c), dead]) hG mo_J7_copyOf_59c91 (Nat.le_of_ble_eq_true rfl) rfl ?_
  intro X hi hd hXn hXz hXf hQ
  have hlt : nI c < nI N := (nI_ltI (by omega) (by omega)).mpr hc
  have h0 : ¬ nI c < 0 := fun h => by
    have := (nI_ltI (a := c) (b := 0) (by omega) (by omega)).mp h
    omega
  refine wp_sound (by rw [hi]; exact ok_J7_copyOf_59c91) (hd := []) 400 _ _ _ _ _ _ ?_
  simp (disch := omega) only [wp, stp, List.mem_cons, List.not_mem_nil, Nat.reduceEqDiff, or_false, or_self, false_or, or_true, true_or, Nat.reduceAdd, ↓reduceIte, List.getElem?_cons_zero, List.getElem?_cons_succ, nthV, List.set_cons_zero, List.set_cons_succ, noL, popA, catS, Value.category, List.length_cons, List.length_nil, Nat.reduceLT, Nat.reduceLeDiff, true_and, and_true, one0, zer1, imp_t, imp_f, ofN_nI, sdead, f20, f21, not_true_eq_false, upC_self, upC_ne, upC_upC, retC, fitC, isRefT, Option.toList_some, Option.toList_none, List.cons_append, List.nil_append, Nat.lt_add_one, Nat.zero_lt_succ, Nat.le_refl, Nat.add_zero, Nat.zero_add, Nat.one_ne_zero, Nat.zero_ne_one, Nat.lt_irrefl, List.length_set, fa_J7_copyOf_59c91, hi, hd, hQ, mr_J7_copyOf_59c91, hp, hcc]
  simp only [hlt, if_true, hcc]
  refine ⟨fun _ => ⟨h0, by omega, by omega, by omega, hd1, hd1, (show n < 1000000 by omega), by decide, by decide, h0, by show 0 + c ≤ N; omega, by show 0 + c ≤ c; omega, _, fun i hi' => ?_, rfl⟩, fun h => absurd ((nI_eq (by omega) (by omega)).mp h) (by omega)⟩
  show va_cpy st _ 0 0 c i = st i
  rw [pk_cpy_in (by omega) (by omega), show 0 + (i - 0) = i by omega]
theorem t_readerInit (hG : Ok G) (hd1 : 1 ≤ d) {p : Nat} (hn : p + 5 ≤ CAP) (hz : z + 2003 ≤ SCAP) (h : f p = cO 5 (new0 5)) (hp1 : 49 ≤ p) : Tr G d 55 [.ref p] (p + 1) z f (fun v n' z' f' => v = none ∧ n' = p + 5 ∧ z' = z + 2003 ∧ ∃ I kd pl vl st, f' = rM f p I kd pl vl st) := by
  have hCAP : CAP = 600000 := rfl
  have hSCAP : SCAP = 7302249 := rfl
  have hp : p < 1000000 := by omega
  have a1 : (401 : Int32).toNatClampNeg = 401 := rfl
  have a2 : ((401 : Int32) < 0) = False := eq_false (by decide)
  have a3 : (800 : Int32).toNatClampNeg = 800 := rfl
  have a4 : ((800 : Int32) < 0) = False := eq_false (by decide)
  rw [show new0 5 = [.int 0, .int 0, .null, .null, .null, .int 0, .int 0, .null, .int 0, .int 0, .int 0] from rfl] at h
  refine Tr.of2 (ls0 := [.ref p]) hG mo_X5_init (Nat.le_of_ble_eq_true rfl) rfl ?_
  intro X hi hd hXn hXz hXf hQ
  refine wp_sound (by rw [hi]; exact ok_X5_init) (hd := []) 400 _ _ _ _ _ _ ?_
  simp (disch := omega) only [wp, stp, List.mem_cons, List.not_mem_nil, Nat.reduceEqDiff, or_false, or_self, false_or, or_true, true_or, Nat.reduceAdd, ↓reduceIte, List.getElem?_cons_zero, List.getElem?_cons_succ, nthV, List.set_cons_zero, List.set_cons_succ, noL, popA, catS, Value.category, List.length_cons, List.length_nil, Nat.reduceLT, Nat.reduceLeDiff, true_and, and_true, one0, zer1, imp_t, imp_f, ofN_nI, sdead, f20, f21, not_true_eq_false, upC_self, upC_ne, upC_upC, retC, fitC, isRefT, Option.toList_some, Option.toList_none, List.cons_append, List.nil_append, Nat.lt_add_one, Nat.zero_lt_succ, Nat.le_refl, Nat.add_zero, Nat.zero_add, Nat.one_ne_zero, Nat.zero_ne_one, Nat.lt_irrefl, List.length_set, fa_X5_init, hi, hd, hQ, mr_X5_init, h, a1, a2, a3, a4, hp, Nat.add_assoc, not_false_eq_true, rM_0, rM_1, rM_2, rM_3, rM_4, ru_0, ru_1, ru_2, ru_3, ru_4, rO_len, rg_0, rg_1, rg_2, rg_3, rg_4, rg_5, rg_6, rg_7, rg_8, rg_9, rg_10, rs_0, rs_1, rs_5, rs_6, rs_8, rs_9, rs_10]
  refine ⟨hd1, by omega, by omega, by omega, by omega, by omega, by omega, by omega, by omega, fun _ => 0, fun _ => 0, fun _ => 0, fun _ => 0, fun _ => 0, funext fun x => ?_⟩
  unfold rM
  by_cases e0 : x = p
  · rw [if_pos e0, e0, upC_self]; rfl
  · rw [if_neg e0]
    by_cases e1 : x = p + 1
    · rw [if_pos e1, e1]; simp (disch := omega) only [upC_self, upC_ne]
    · rw [if_neg e1]
      by_cases e2 : x = p + 2
      · rw [if_pos e2, e2]; simp (disch := omega) only [upC_self, upC_ne]
      · rw [if_neg e2]
        by_cases e3 : x = p + 3
        · rw [if_pos e3, e3]; simp (disch := omega) only [upC_self, upC_ne]
        · rw [if_neg e3]
          by_cases e4 : x = p + 4
          · rw [if_pos e4, e4]; simp (disch := omega) only [upC_self, upC_ne]
          · rw [if_neg e4]; simp (disch := omega) only [upC_ne]
end Rd6
