-- Reader: a whole law
set_option maxRecDepth 100000
set_option maxHeartbeats 4000000
section Rd7
variable {G : Gam} {d n z rp len : Nat} {f0 : Mf} {I kd pl vl st : Nat → Int32} {tb : Nat → Nat}
/-- how the reading of a law ends -/
def RdR (f0 : Mf) (rp n z : Nat) (tb : Nat → Nat) (len : Nat) : Po := fun v n' z' f' => match pLw (tK tb len) (tV tb len) 17 0 [] with
  | .inl (why, j) => v = some .null ∧ (n' = n ∧ z' = z) ∧ ∃ I' kd' pl' vl' st', f' = rM f0 rp I' kd' pl' vl' st' ∧ I' 0 = nI why ∧ I' 1 = nI (sqT tb len j)
  | .inr (_, ls) => v = some (.ref n) ∧ n' = n + 2 ∧ (z ≤ z' ∧ z' ≤ z + 803) ∧ ∃ ae, (ae = 0 ∨ ae = 1) ∧ Lok (nI ls.length, ae, lwV ls) ∧ LawA f' n' n (nI ls.length, ae, lwV ls) ∧ LwP f' n (nI ls.length, ae, lwV ls) ∧ ∃ I' kd' pl' vl' st', (I' 0 = 0 ∧ I' 1 = -1) ∧ ∀ x, ¬ x = n → ¬ x = n + 1 → f' x = rM f0 rp I' kd' pl' vl' st' x
theorem behE.cong {k c k1 c1 : Nat} {st' : Nat → Int32} {e : EV} (h : behE k c st k1 c1 e) (he : ∀ i, i < c1 → st' i = st i) : behE k c st' k1 c1 e := by
  obtain ⟨⟨s, b⟩, r⟩ := h
  obtain ⟨a1, a2⟩ := s.cong he
  exact ⟨⟨a1, b⟩, fun F R => by rw [a2]; exact r F R⟩
theorem behB.cong {bd k c k1 c1 : Nat} {st' : Nat → Int32} {e : BV} (h : behB bd k c st k1 c1 e) (he : ∀ i, i < c1 → st' i = st i) : behB bd k c st' k1 c1 e := by
  obtain ⟨⟨s, b⟩, r⟩ := h
  obtain ⟨a1, a2⟩ := s.cong he
  exact ⟨⟨a1, b⟩, fun F R t h1 h2 => by rw [a2]; exact r F R t h1 h2⟩
theorem RdR.err {why j : Nat} (h : pLw (tK tb len) (tV tb len) 17 0 [] = .inl (why, j)) (h0 : I 0 = nI why) (h1 : I 1 = nI (sqT tb len j)) : RdR f0 rp n z tb len (some .null) n z (rM f0 rp I kd pl vl st) := by
  unfold RdR; rw [h]
  exact ⟨rfl, ⟨rfl, rfl⟩, I, kd, pl, vl, st, rfl, h0, h1⟩
theorem t_read (hG : Ok G) (hd1 : 32 ≤ d) (hrp : rp + 5 ≤ n ∧ 49 ≤ rp) (hn : n + 2 ≤ CAP) (hz : z + 803 ≤ SCAP) (hA0 : StrA f0) (hT0 : TpA f0 30 len tb) : Tr G d 56 [.ref rp, .ref 30, .int (nI len)] n z (rM f0 rp I kd pl vl st) (RdR f0 rp n z tb len) := by
  obtain ⟨hrn, h49⟩ := hrp
  have hCAP : CAP = 600000 := rfl
  have hSCAP : SCAP = 7302249 := rfl
  have hrp : rp + 5 ≤ 1000000 := by omega
  have o0 : rp < 1000000 := by omega
  obtain ⟨tg, t1, t2, t3⟩ := id hT0
  have t1' : ∀ I kd pl vl st, rM f0 rp I kd pl vl st 30 = cB 400 tg := fun I kd pl vl st => by rw [rM_o (by omega)]; exact t1
  refine Tr.of2 (ls0 := [.ref rp, .ref 30, .int (nI len), dead, dead]) hG mo_X5_read (Nat.le_of_ble_eq_true rfl) rfl ?_
  intro X hi hd hXn hXz hXf hQ
  obtain ⟨K, hK⟩ : ∃ K, K = tK tb len := ⟨_, rfl⟩
  obtain ⟨U, hU⟩ : ∃ U, U = tV tb len := ⟨_, rfl⟩
  obtain ⟨P, hP0⟩ : ∃ P, P = sqT tb len := ⟨_, rfl⟩
  have fin : ∀ T kd pl vl I st k c ls u4, TkR K U P T kd pl vl → PSt T I k c → c ≤ 2 * k - 2 → (I 0 = 0 ∧ I 1 = -1) → I 9 = nI ls.length → ls.length ≤ 16 → I 10 = aeU 0 (evR K U 0 k) → LwI st c ls → pLw K U 17 0 [] = .inr (k, ls) → V G X 212 [.ref rp, .ref 30, .int (nI len), .int (nI ls.length), u4] [] n z (rM f0 rp I kd pl vl st) := by
    intro T kd pl vl I st k c ls u4 hT hP hck hI01 h9 hl16 hae hL hr
    obtain ⟨⟨h5, h6, h8⟩, ⟨hk, hc⟩, h10⟩ := id hP
    have hT4 := hT.1.1
    have hv8 : ∀ k, K k = 259 → U k < 8 := by rw [hK, hU]; exact tV8 (fun i hi' => (t3 i hi').1)
    have hval : ∀ F F' : Fa, (∀ j, j < 8 → F j = F' j) → lawRun (kdO st) (vlO st) F c 0 0 0 0 0 (Int64.ofNat 0) = lwV ls F' := fun F F' hF => by
      obtain ⟨R, -, e⟩ := hL.2 st (fun _ _ => rfl) F 0
      have e2 : lwV ls F = lwV ls F' := lwV_7 ls (pLw8 hF hv8 17 0 [] (fun l hl => by cases hl) k ls hr)
      rw [← e2, ← lwW_0]
      exact e
    have hlok : Lok (nI ls.length, I 10, lwV ls) := fun h0 F F' hF => by
      refine lwV_7 ls ((pLw_ok hT.1 17 0 [] (Nat.zero_le _) k ls hr).2 (fun q => ?_) F F' hF (fun l hl => by cases hl))
      have h0 : I 10 = 0 := h0
      rw [hae, aeU_t q] at h0
      cases h0
    refine wp_sound (by rw [hi]; exact ok_X5_read) (hd := [41, 43, 93, 103, 110, 132, 163, 173, 195, 201, 227, 238]) 400 _ _ _ _ _ _ ?_
    simp (disch := omega) only [wp, stp, List.mem_cons, List.not_mem_nil, Nat.reduceEqDiff, or_false, or_self, false_or, or_true, true_or, Nat.reduceAdd, ↓reduceIte, List.getElem?_cons_zero, List.getElem?_cons_succ, nthV, List.set_cons_zero, List.set_cons_succ, noL, popA, catS, Value.category, List.length_cons, List.length_nil, Nat.reduceLT, Nat.reduceLeDiff, true_and, and_true, one0, zer1, imp_t, imp_f, ofN_nI, sdead, f20, f21, not_true_eq_false, upC_self, upC_ne, upC_upC, retC, fitC, isRefT, Option.toList_some, Option.toList_none, List.cons_append, List.nil_append, Nat.lt_add_one, Nat.zero_lt_succ, Nat.le_refl, Nat.add_zero, Nat.zero_add, Nat.one_ne_zero, Nat.zero_ne_one, Nat.lt_irrefl, List.length_set, fa_X5_read, hi, hd, hQ, mr_X5_read, h8, h9, new0_3, clK_3, rM_0, rM_1, rM_2, rM_3, rM_4, ru_0, ru_1, ru_2, ru_3, ru_4, rO_len, rg_0, rg_1, rg_2, rg_3, rg_4, rg_5, rg_6, rg_7, rg_8, rg_9, rg_10, rs_0, rs_1, rs_5, rs_6, rs_8, rs_9, rs_10]
    refine ⟨by omega, by omega, by omega, _, t_copyOf hG (by omega) (p := rp + 4) (N := 800) (c := c) (st := st) (by rw [upC_ne _ _ (by omega)]; exact rM_4) (by omega) (by omega) (by omega) (by omega) (by omega), ?_⟩
    rintro v n2 z2 f2 ⟨rfl, rfl, rfl, st', hst, rfl⟩
    refine wp_sound (by rw [hi]; exact ok_X5_read) (hd := [41, 43, 93, 103, 110, 132, 163, 173, 195, 201, 227, 238]) 400 _ _ _ _ _ _ ?_
    simp (disch := omega) only [wp, stp, List.mem_cons, List.not_mem_nil, Nat.reduceEqDiff, or_false, or_self, false_or, or_true, true_or, Nat.reduceAdd, ↓reduceIte, List.getElem?_cons_zero, List.getElem?_cons_succ, nthV, List.set_cons_zero, List.set_cons_succ, noL, popA, catS, Value.category, List.length_cons, List.length_nil, Nat.reduceLT, Nat.reduceLeDiff, true_and, and_true, one0, zer1, imp_t, imp_f, ofN_nI, sdead, f20, f21, not_true_eq_false, upC_self, upC_ne, upC_upC, retC, fitC, isRefT, Option.toList_some, Option.toList_none, List.cons_append, List.nil_append, Nat.lt_add_one, Nat.zero_lt_succ, Nat.le_refl, Nat.add_zero, Nat.zero_add, Nat.one_ne_zero, Nat.zero_ne_one, Nat.lt_irrefl, List.length_set, fa_X5_read, hi, hd, hQ, mr_X5_read, h8, h9, rM_0, rM_1, rM_2, rM_3, rM_4, ru_0, ru_1, ru_2, ru_3, ru_4, rO_len, rg_0, rg_1, rg_2, rg_3, rg_4, rg_5, rg_6, rg_7, rg_8, rg_9, rg_10, rs_0, rs_1, rs_5, rs_6, rs_8, rs_9, rs_10]
    refine ⟨by omega, _, t_lawInit hG (by omega) (p := n) (q := n + 1) (by omega) (a := .int 0) (b := .int 0) (c := .null) (by simp (disch := omega) only [upC_self, upC_ne]) (by rw [upC_self]) h10, ?_⟩
    rintro v n3 z3 f3 ⟨rfl, rfl, rfl, rfl⟩
    refine wp_sound (by rw [hi]; exact ok_X5_read) (hd := [41, 43, 93, 103, 110, 132, 163, 173, 195, 201, 227, 238]) 400 _ _ _ _ _ _ ?_
    simp (disch := omega) only [wp, stp, List.mem_cons, List.not_mem_nil, Nat.reduceEqDiff, or_false, or_self, false_or, or_true, true_or, Nat.reduceAdd, ↓reduceIte, List.getElem?_cons_zero, List.getElem?_cons_succ, nthV, List.set_cons_zero, List.set_cons_succ, noL, popA, catS, Value.category, List.length_cons, List.length_nil, Nat.reduceLT, Nat.reduceLeDiff, true_and, and_true, one0, zer1, imp_t, imp_f, ofN_nI, sdead, f20, f21, not_true_eq_false, upC_self, upC_ne, upC_upC, retC, fitC, isRefT, Option.toList_some, Option.toList_none, List.cons_append, List.nil_append, Nat.lt_add_one, Nat.zero_lt_succ, Nat.le_refl, Nat.add_zero, Nat.zero_add, Nat.one_ne_zero, Nat.zero_ne_one, Nat.lt_irrefl, List.length_set, fa_X5_read, hi, hd, hQ, mr_X5_read, rM_0, rM_1, rM_2, rM_3, rM_4, ru_0, ru_1, ru_2, ru_3, ru_4, rO_len, rg_0, rg_1, rg_2, rg_3, rg_4, rg_5, rg_6, rg_7, rg_8, rg_9, rg_10, rs_0, rs_1, rs_5, rs_6, rs_8, rs_9, rs_10]
    unfold RdR
    rw [← hK, ← hU, hr]
    refine ⟨rfl, rfl, by omega, I 10, h10, hlok, ⟨n + 1, c, st', kdO st, vlO st, by omega, by omega, upC_self _ _ _, by simp (disch := omega) only [upC_self, upC_ne], ⟨hc, fun i hi' => ?_⟩, hval⟩, upC_self _ _ _, I, kd, pl, vl, st, hI01, fun x hx1 hx2 => by simp (disch := omega) only [upC_ne]⟩
    rw [hst i hi']; exact hL.1 i hi'
  have step : ∀ T kd pl vl I st k c ls u4, TkR K U P T kd pl vl → PSt T I k c → c ≤ 2 * k - 2 → (I 0 = 0 ∧ I 1 = -1) → I 9 = nI ls.length → ls.length ≤ 16 → I 10 = aeU 0 (evR K U 0 k) → LwI st c ls → pLw K U (17 - ls.length) k ls = pLw K U 17 0 [] →
      (ls.length < 16 → ∀ I st k c l u4, PSt T I k c → c ≤ 2 * k - 2 → (I 0 = 0 ∧ I 1 = -1) → I 9 = nI (ls.length + 1) → I 10 = aeU 0 (evR K U 0 k) → LwI st c (ls ++ [l]) → pLw K U (16 - ls.length) k (ls ++ [l]) = pLw K U 17 0 [] → V G X 43 [.ref rp, .ref 30, .int (nI len), .int (nI (ls.length + 1)), u4] [] n z (rM f0 rp I kd pl vl st)) →
      V G X 43 [.ref rp, .ref 30, .int (nI len), .int (nI ls.length), u4] [] n z (rM f0 rp I kd pl vl st) := by
    intro T kd pl vl I st k c ls u4 hT hP hck hI01 h9 hl16 hae hL hr hnx
    obtain ⟨⟨h5, h6, h8⟩, ⟨hk, hc⟩, h10⟩ := id hP
    obtain ⟨hS, hR, hB⟩ := id hT
    have hT4 := hS.1
    have hkk : (nI k).toNatClampNeg = k := nI_clamp (by omega)
    have ek := (hR k hk).1
    have bk := (hB k hk).1
    obtain ⟨m, hm⟩ : ∃ m, 17 - ls.length = m + 1 := ⟨16 - ls.length, by omega⟩
    rw [hm, pLw] at hr
    have L96 : ¬ K k = 257 → (K k = 260 → ls.length < 16) → V G X 96 [.ref rp, .ref 30, .int (nI len), .int (nI ls.length), u4] [] n z (rM f0 rp I kd pl vl st) := by
      intro q257 q260
      rw [if_neg q257] at hr
      refine wp_sound (by rw [hi]; exact ok_X5_read) (hd := [41, 43, 93, 103, 110, 132, 163, 173, 195, 201, 227, 238]) 400 _ _ _ _ _ _ ?_
      simp (disch := omega) only [wp, stp, List.mem_cons, List.not_mem_nil, Nat.reduceEqDiff, or_false, or_self, false_or, or_true, true_or, Nat.reduceAdd, ↓reduceIte, List.getElem?_cons_zero, List.getElem?_cons_succ, nthV, List.set_cons_zero, List.set_cons_succ, noL, popA, catS, Value.category, List.length_cons, List.length_nil, Nat.reduceLT, Nat.reduceLeDiff, true_and, and_true, one0, zer1, imp_t, imp_f, ofN_nI, sdead, f20, f21, not_true_eq_false, upC_self, upC_ne, upC_upC, retC, fitC, isRefT, Option.toList_some, Option.toList_none, List.cons_append, List.nil_append, Nat.lt_add_one, Nat.zero_lt_succ, Nat.le_refl, Nat.add_zero, Nat.zero_add, Nat.one_ne_zero, Nat.zero_ne_one, Nat.lt_irrefl, List.length_set, fa_X5_read, hi, hd, hQ, mr_X5_read, rM_0, rM_1, rM_2, rM_3, rM_4, ru_0, ru_1, ru_2, ru_3, ru_4, rO_len, rg_0, rg_1, rg_2, rg_3, rg_4, rg_5, rg_6, rg_7, rg_8, rg_9, rg_10, rs_0, rs_1, rs_5, rs_6, rs_8, rs_9, rs_10]
      refine ⟨by omega, _, t_readSign hG (by omega) hrp hT hP (s := 260) (by omega), ?_⟩
      rintro v n1 z1 f1 ⟨⟨rfl, rfl⟩, ⟨q, hkT, rfl, rfl⟩ | ⟨q, rfl, rfl⟩⟩
      rotate_left
      · rw [if_neg q] at hr
        refine wp_sound (by rw [hi]; exact ok_X5_read) (hd := [41, 43, 93, 103, 110, 132, 163, 173, 195, 201, 227, 238]) 400 _ _ _ _ _ _ ?_
        simp (disch := omega) only [wp, stp, List.mem_cons, List.not_mem_nil, Nat.reduceEqDiff, or_false, or_self, false_or, or_true, true_or, Nat.reduceAdd, ↓reduceIte, List.getElem?_cons_zero, List.getElem?_cons_succ, nthV, List.set_cons_zero, List.set_cons_succ, noL, popA, catS, Value.category, List.length_cons, List.length_nil, Nat.reduceLT, Nat.reduceLeDiff, true_and, and_true, one0, zer1, imp_t, imp_f, ofN_nI, sdead, f20, f21, not_true_eq_false, upC_self, upC_ne, upC_upC, retC, fitC, isRefT, Option.toList_some, Option.toList_none, List.cons_append, List.nil_append, Nat.lt_add_one, Nat.zero_lt_succ, Nat.le_refl, Nat.add_zero, Nat.zero_add, Nat.one_ne_zero, Nat.zero_ne_one, Nat.lt_irrefl, List.length_set, fa_X5_read, hi, hd, hQ, mr_X5_read, rM_0, rM_1, rM_2, rM_3, rM_4, ru_0, ru_1, ru_2, ru_3, ru_4, rO_len, rg_0, rg_1, rg_2, rg_3, rg_4, rg_5, rg_6, rg_7, rg_8, rg_9, rg_10, rs_0, rs_1, rs_5, rs_6, rs_8, rs_9, rs_10]
        rw [hK, hU] at hr
        exact fun _ => RdR.err (I := upd (upd I 0 1) 1 (nI (P k))) hr.symm rfl (by rw [← hP0]; rfl)
      have hl := q260 q
      rw [if_pos q, if_neg (by omega)] at hr
      unfold pLn at hr
      have hI1 : PSt T (upd I 6 (nI (k + 1))) (k + 1) c := ⟨⟨h5, rfl, h8⟩, by omega, h10⟩
      refine wp_sound (by rw [hi]; exact ok_X5_read) (hd := [41, 43, 93, 103, 110, 132, 163, 173, 195, 201, 227, 238]) 400 _ _ _ _ _ _ ?_
      simp (disch := omega) only [wp, stp, List.mem_cons, List.not_mem_nil, Nat.reduceEqDiff, or_false, or_self, false_or, or_true, true_or, Nat.reduceAdd, ↓reduceIte, List.getElem?_cons_zero, List.getElem?_cons_succ, nthV, List.set_cons_zero, List.set_cons_succ, noL, popA, catS, Value.category, List.length_cons, List.length_nil, Nat.reduceLT, Nat.reduceLeDiff, true_and, and_true, one0, zer1, imp_t, imp_f, ofN_nI, sdead, f20, f21, not_true_eq_false, upC_self, upC_ne, upC_upC, retC, fitC, isRefT, Option.toList_some, Option.toList_none, List.cons_append, List.nil_append, Nat.lt_add_one, Nat.zero_lt_succ, Nat.le_refl, Nat.add_zero, Nat.zero_add, Nat.one_ne_zero, Nat.zero_ne_one, Nat.lt_irrefl, List.length_set, fa_X5_read, hi, hd, hQ, mr_X5_read, rM_0, rM_1, rM_2, rM_3, rM_4, ru_0, ru_1, ru_2, ru_3, ru_4, rO_len, rg_0, rg_1, rg_2, rg_3, rg_4, rg_5, rg_6, rg_7, rg_8, rg_9, rg_10, rs_0, rs_1, rs_5, rs_6, rs_8, rs_9, rs_10]
      refine ⟨by omega, _, t_readAmount hG (by omega) hrp hT hI1 (by omega), ?_⟩
      intro v n2 z2 f2 hv
      cases hu : pE K U (k + 1) with
      | inl e =>
        rw [hu] at hv hr
        obtain ⟨⟨rfl, rfl⟩, rfl, I2, st2, c2, rfl, ⟨r0, r1⟩, r8, rc⟩ := hv
        obtain ⟨why, jj⟩ := e
        refine wp_sound (by rw [hi]; exact ok_X5_read) (hd := [41, 43, 93, 103, 110, 132, 163, 173, 195, 201, 227, 238]) 400 _ _ _ _ _ _ ?_
        simp (disch := omega) only [wp, stp, List.mem_cons, List.not_mem_nil, Nat.reduceEqDiff, or_false, or_self, false_or, or_true, true_or, Nat.reduceAdd, ↓reduceIte, List.getElem?_cons_zero, List.getElem?_cons_succ, nthV, List.set_cons_zero, List.set_cons_succ, noL, popA, catS, Value.category, List.length_cons, List.length_nil, Nat.reduceLT, Nat.reduceLeDiff, true_and, and_true, one0, zer1, imp_t, imp_f, ofN_nI, sdead, f20, f21, not_true_eq_false, upC_self, upC_ne, upC_upC, retC, fitC, isRefT, Option.toList_some, Option.toList_none, List.cons_append, List.nil_append, Nat.lt_add_one, Nat.zero_lt_succ, Nat.le_refl, Nat.add_zero, Nat.zero_add, Nat.one_ne_zero, Nat.zero_ne_one, Nat.lt_irrefl, List.length_set, fa_X5_read, hi, hd, hQ, mr_X5_read, rM_0, rM_1, rM_2, rM_3, rM_4, ru_0, ru_1, ru_2, ru_3, ru_4, rO_len, rg_0, rg_1, rg_2, rg_3, rg_4, rg_5, rg_6, rg_7, rg_8, rg_9, rg_10, rs_0, rs_1, rs_5, rs_6, rs_8, rs_9, rs_10]
        rw [hK, hU] at hr
        exact fun _ => RdR.err hr.symm r0 (by rw [← hP0]; exact r1)
      | inr qq =>
        obtain ⟨k1, ev⟩ := qq
        obtain ⟨⟨w1, w2⟩, -⟩ := pE_ok hS (k := k + 1) (by omega) k1 ev hu
        rw [hu] at hv hr
        dsimp only at hr
        obtain ⟨⟨rfl, rfl⟩, rfl, I2, st2, c1, rfl, s2, ⟨r6, r8, r10⟩, rst, hbe⟩ := hv
        have hc1 := hbe.1.2
        have hc0 := hbe.1.1.1
        have e9 : I2 9 + 1 = nI (ls.length + 1) := by rw [s2 9 (by omega) (by omega) (by omega)]; show I 9 + 1 = _; rw [h9, nI_1]
        refine wp_sound (by rw [hi]; exact ok_X5_read) (hd := [41, 43, 93, 103, 110, 132, 163, 173, 195, 201, 227, 238]) 400 _ _ _ _ _ _ ?_
        simp (disch := omega) only [wp, stp, List.mem_cons, List.not_mem_nil, Nat.reduceEqDiff, or_false, or_self, false_or, or_true, true_or, Nat.reduceAdd, ↓reduceIte, List.getElem?_cons_zero, List.getElem?_cons_succ, nthV, List.set_cons_zero, List.set_cons_succ, noL, popA, catS, Value.category, List.length_cons, List.length_nil, Nat.reduceLT, Nat.reduceLeDiff, true_and, and_true, one0, zer1, imp_t, imp_f, ofN_nI, sdead, f20, f21, not_true_eq_false, upC_self, upC_ne, upC_upC, retC, fitC, isRefT, Option.toList_some, Option.toList_none, List.cons_append, List.nil_append, Nat.lt_add_one, Nat.zero_lt_succ, Nat.le_refl, Nat.add_zero, Nat.zero_add, Nat.one_ne_zero, Nat.zero_ne_one, Nat.lt_irrefl, List.length_set, fa_X5_read, hi, hd, hQ, mr_X5_read, e9, rM_0, rM_1, rM_2, rM_3, rM_4, ru_0, ru_1, ru_2, ru_3, ru_4, rO_len, rg_0, rg_1, rg_2, rg_3, rg_4, rg_5, rg_6, rg_7, rg_8, rg_9, rg_10, rs_0, rs_1, rs_5, rs_6, rs_8, rs_9, rs_10]
        refine ⟨o0, by omega, _, t_addStep hG hrp (I := upd I2 9 (nI (ls.length + 1))) r8 (by omega) (a := 6) (b := 0) (by omega) (by omega), ?_⟩
        rintro v n3 z3 f3 ⟨rfl, ⟨rfl, rfl⟩, ⟨-, rfl⟩ | ⟨hx, rfl⟩⟩
        rotate_left
        · omega
        have hkk1 : (nI k1).toNatClampNeg = k1 := nI_clamp (by omega)
        have ek1 := (hR k1 w2).1
        have bk1 := (hB k1 w2).1
        obtain ⟨I3, hI3⟩ : ∃ I3, I3 = upd (upd I2 9 (nI (ls.length + 1))) 8 (nI (c1 + 1)) := ⟨_, rfl⟩
        obtain ⟨st3, hs3⟩ : ∃ st3, st3 = upd st2 c1 (nI (65536 * 6 + 0)) := ⟨_, rfl⟩
        rw [← hI3, ← hs3]
        have g2 : ∀ j, ¬ j = 6 → ¬ j = 8 → ¬ j = 9 → ¬ j = 10 → I3 j = I j := fun j a b c' d' => by
          rw [hI3, upd_ap, if_neg b, upd_ap, if_neg c', s2 j a b d', upd_ap, if_neg a]
        have g6 : I3 6 = nI k1 := by rw [hI3]; exact r6
        have g8 : I3 8 = nI (c1 + 1) := by rw [hI3]; exact upd_self
        have g9 : I3 9 = nI (ls.length + 1) := by rw [hI3]; rfl
        have g10 : I3 10 = aeU 0 (evR K U 0 k1) := by
          have a1 := ae_step (I := fun _ => 0) (I1 := I) (I2 := upd I 6 (nI (k + 1))) (K := K) (U := U) (a := 0) (b := k) hae rfl (by omega) (by omega)
          have a2 := ae_join (I := fun _ => 0) (I1 := upd I 6 (nI (k + 1))) (I2 := I2) a1 r10 (by omega) (by omega)
          rw [hI3]; exact a2
        have g5 : I3 5 = nI (T + 1) := (g2 5 (by omega) (by omega) (by omega) (by omega)).trans h5
        have g01 : I3 0 = 0 ∧ I3 1 = -1 := ⟨(g2 0 (by omega) (by omega) (by omega) (by omega)).trans hI01.1, (g2 1 (by omega) (by omega) (by omega) (by omega)).trans hI01.2⟩
        have gL : LwI st3 c ls := hL.cong (fun i hi' => by rw [hs3, upd_lt (by omega)]; exact rst i hi')
        have gE : behE (k + 1) c st3 k1 c1 ev := hbe.cong (fun i hi' => by rw [hs3, upd_lt hi'])
        have g6s : st3 c1 = nI (65536 * 6 + 0) := by rw [hs3]; exact upd_self
        have gP : PSt T I3 k1 (c1 + 1) := ⟨⟨g5, g6, g8⟩, by omega, by rw [g10]; exact aeU_01 (Or.inl rfl)⟩
        clear hbe hI3 hs3 s2 rst r10 r8 r6
        by_cases q261 : K k1 = 261
        · have hk1 := hS.lt w2 (by omega)
          rw [if_pos q261] at hr
          have gP1 : PSt T (upd I3 6 (nI (k1 + 1))) (k1 + 1) (c1 + 1) := ⟨⟨g5, rfl, g8⟩, by omega, gP.2.2⟩
          refine wp_sound (by rw [hi]; exact ok_X5_read) (hd := [41, 43, 93, 103, 110, 132, 163, 173, 195, 201, 227, 238]) 400 _ _ _ _ _ _ ?_
          simp (disch := omega) only [wp, stp, List.mem_cons, List.not_mem_nil, Nat.reduceEqDiff, or_false, or_self, false_or, or_true, true_or, Nat.reduceAdd, ↓reduceIte, List.getElem?_cons_zero, List.getElem?_cons_succ, nthV, List.set_cons_zero, List.set_cons_succ, noL, popA, catS, Value.category, List.length_cons, List.length_nil, Nat.reduceLT, Nat.reduceLeDiff, true_and, and_true, one0, zer1, imp_t, imp_f, ofN_nI, sdead, f20, f21, not_true_eq_false, upC_self, upC_ne, upC_upC, retC, fitC, isRefT, Option.toList_some, Option.toList_none, List.cons_append, List.nil_append, Nat.lt_add_one, Nat.zero_lt_succ, Nat.le_refl, Nat.add_zero, Nat.zero_add, Nat.one_ne_zero, Nat.zero_ne_one, Nat.lt_irrefl, List.length_set, fa_X5_read, hi, hd, hQ, mr_X5_read, g6, hkk1, ek1, rM_0, rM_1, rM_2, rM_3, rM_4, ru_0, ru_1, ru_2, ru_3, ru_4, rO_len, rg_0, rg_1, rg_2, rg_3, rg_4, rg_5, rg_6, rg_7, rg_8, rg_9, rg_10, rs_0, rs_1, rs_5, rs_6, rs_8, rs_9, rs_10]
          try simp only [m1f]
          try simp (disch := omega) only [nmod, nI_leI, nI_ltI, nI_eq, nI_clamp, vin_nI, nI_1, fa_lit, nI_add, nI_rm3, nI_rm2, pk_rem, pk_mul, pk_sub, pk_div, nI_eM, nI_Me, nI_pM, nI_pMz, nI_pM0, M1_lt, M1_le, nI_ltM, nI_leM, i8_nI, true_and, and_true, false_implies, true_implies, not_false_eq_true, not_true_eq_false, ne_eq, implies_true, Nat.not_lt_zero, Nat.zero_le, ite_min, max0, Nat.reduceLT, Nat.reduceLeDiff, Nat.reduceEqDiff, Nat.reduceAdd, Nat.reduceMul]
          try simp only [m1u]
          refine ⟨by omega, fun h => absurd q261 h, fun _ => ⟨by omega, _, t_goOn hG hrp gP hT4 hk1, ?_⟩⟩
          rintro v n4 z4 f4 ⟨rfl, rfl, rfl, rfl⟩
          rw [show nI 1 = (1 : Int32) from rfl]
          refine wp_sound (by rw [hi]; exact ok_X5_read) (hd := [41, 43, 93, 103, 110, 132, 163, 173, 195, 201, 227, 238]) 400 _ _ _ _ _ _ ?_
          simp (disch := omega) only [wp, stp, List.mem_cons, List.not_mem_nil, Nat.reduceEqDiff, or_false, or_self, false_or, or_true, true_or, Nat.reduceAdd, ↓reduceIte, List.getElem?_cons_zero, List.getElem?_cons_succ, nthV, List.set_cons_zero, List.set_cons_succ, noL, popA, catS, Value.category, List.length_cons, List.length_nil, Nat.reduceLT, Nat.reduceLeDiff, true_and, and_true, one0, zer1, imp_t, imp_f, ofN_nI, sdead, f20, f21, not_true_eq_false, upC_self, upC_ne, upC_upC, retC, fitC, isRefT, Option.toList_some, Option.toList_none, List.cons_append, List.nil_append, Nat.lt_add_one, Nat.zero_lt_succ, Nat.le_refl, Nat.add_zero, Nat.zero_add, Nat.one_ne_zero, Nat.zero_ne_one, Nat.lt_irrefl, List.length_set, fa_X5_read, hi, hd, hQ, mr_X5_read, rM_0, rM_1, rM_2, rM_3, rM_4, ru_0, ru_1, ru_2, ru_3, ru_4, rO_len, rg_0, rg_1, rg_2, rg_3, rg_4, rg_5, rg_6, rg_7, rg_8, rg_9, rg_10, rs_0, rs_1, rs_5, rs_6, rs_8, rs_9, rs_10]
          refine ⟨by omega, _, (t_claims hG hrp hT 8 (Nat.le_refl _)).2 (d - 1) n4 z4 (k1 + 1) (c1 + 1) f0 _ st3 (by omega) gP1 (by omega), ?_⟩
          intro v n5 z5 f5 hv
          cases hb : pBo K (pC K U 8) (k1 + 1) with
          | inl e =>
            rw [hb] at hv hr
            obtain ⟨⟨rfl, rfl⟩, rfl, I2, st2, c2, rfl, ⟨r0, r1⟩, r8, rc⟩ := hv
            obtain ⟨why, jj⟩ := e
            refine wp_sound (by rw [hi]; exact ok_X5_read) (hd := [41, 43, 93, 103, 110, 132, 163, 173, 195, 201, 227, 238]) 400 _ _ _ _ _ _ ?_
            simp (disch := omega) only [wp, stp, List.mem_cons, List.not_mem_nil, Nat.reduceEqDiff, or_false, or_self, false_or, or_true, true_or, Nat.reduceAdd, ↓reduceIte, List.getElem?_cons_zero, List.getElem?_cons_succ, nthV, List.set_cons_zero, List.set_cons_succ, noL, popA, catS, Value.category, List.length_cons, List.length_nil, Nat.reduceLT, Nat.reduceLeDiff, true_and, and_true, one0, zer1, imp_t, imp_f, ofN_nI, sdead, f20, f21, not_true_eq_false, upC_self, upC_ne, upC_upC, retC, fitC, isRefT, Option.toList_some, Option.toList_none, List.cons_append, List.nil_append, Nat.lt_add_one, Nat.zero_lt_succ, Nat.le_refl, Nat.add_zero, Nat.zero_add, Nat.one_ne_zero, Nat.zero_ne_one, Nat.lt_irrefl, List.length_set, fa_X5_read, hi, hd, hQ, mr_X5_read, rM_0, rM_1, rM_2, rM_3, rM_4, ru_0, ru_1, ru_2, ru_3, ru_4, rO_len, rg_0, rg_1, rg_2, rg_3, rg_4, rg_5, rg_6, rg_7, rg_8, rg_9, rg_10, rs_0, rs_1, rs_5, rs_6, rs_8, rs_9, rs_10]
            rw [hK, hU] at hr
            first | exact RdR.err hr.symm r0 (by rw [← hP0]; exact r1) | exact fun _ => RdR.err hr.symm r0 (by rw [← hP0]; exact r1)
          | inr qq =>
            obtain ⟨k2, b⟩ := qq
            obtain ⟨⟨x1, x2⟩, -⟩ := pBo_ok hS (pC_ok hS 8) (k := k1 + 1) (by omega) k2 b hb
            rw [hb] at hv hr
            dsimp only at hr
            obtain ⟨⟨rfl, rfl⟩, rfl, I5, st5, c2, rfl, s5, ⟨r6, r8, r10⟩, rst, hbb⟩ := hv
            have hc2 := hbb.1.2
            have hc3 := hbb.1.1.1
            refine wp_sound (by rw [hi]; exact ok_X5_read) (hd := [41, 43, 93, 103, 110, 132, 163, 173, 195, 201, 227, 238]) 400 _ _ _ _ _ _ ?_
            simp (disch := omega) only [wp, stp, List.mem_cons, List.not_mem_nil, Nat.reduceEqDiff, or_false, or_self, false_or, or_true, true_or, Nat.reduceAdd, ↓reduceIte, List.getElem?_cons_zero, List.getElem?_cons_succ, nthV, List.set_cons_zero, List.set_cons_succ, noL, popA, catS, Value.category, List.length_cons, List.length_nil, Nat.reduceLT, Nat.reduceLeDiff, true_and, and_true, one0, zer1, imp_t, imp_f, ofN_nI, sdead, f20, f21, not_true_eq_false, upC_self, upC_ne, upC_upC, retC, fitC, isRefT, Option.toList_some, Option.toList_none, List.cons_append, List.nil_append, Nat.lt_add_one, Nat.zero_lt_succ, Nat.le_refl, Nat.add_zero, Nat.zero_add, Nat.one_ne_zero, Nat.zero_ne_one, Nat.lt_irrefl, List.length_set, fa_X5_read, hi, hd, hQ, mr_X5_read, rM_0, rM_1, rM_2, rM_3, rM_4, ru_0, ru_1, ru_2, ru_3, ru_4, rO_len, rg_0, rg_1, rg_2, rg_3, rg_4, rg_5, rg_6, rg_7, rg_8, rg_9, rg_10, rs_0, rs_1, rs_5, rs_6, rs_8, rs_9, rs_10]
            refine ⟨by omega, _, t_addStep hG hrp (I := I5) r8 (by omega) (a := 14) (b := 0) (by omega) (by omega), ?_⟩
            rintro v n6 z6 f6 ⟨rfl, ⟨rfl, rfl⟩, ⟨-, rfl⟩ | ⟨hx, rfl⟩⟩
            rotate_left
            · omega
            have m2 : ∀ j, ¬ j = 6 → ¬ j = 8 → ¬ j = 10 → upd I5 8 (nI (c2 + 1)) j = I3 j := fun j a b' d' => by
              rw [upd_ap, if_neg b', s5 j a b' d', upd_ap, if_neg a]
            have m10 : I5 10 = aeU 0 (evR K U 0 k2) := by
              have a1 := ae_step (I := fun _ => 0) (I1 := I3) (I2 := upd I3 6 (nI (k1 + 1))) (K := K) (U := U) (a := 0) (b := k1) g10 rfl (by omega) (by omega)
              exact ae_join (I := fun _ => 0) (I1 := upd I3 6 (nI (k1 + 1))) (I2 := I5) a1 r10 (by omega) (by omega)
            have mP : PSt T (upd I5 8 (nI (c2 + 1))) k2 (c2 + 1) := ⟨⟨(m2 5 (by omega) (by omega) (by omega)).trans g5, r6, upd_self⟩, by omega, by show I5 10 = 0 ∨ I5 10 = 1; rw [m10]; exact aeU_01 (Or.inl rfl)⟩
            refine wp_sound (by rw [hi]; exact ok_X5_read) (hd := [41, 43, 93, 103, 110, 132, 163, 173, 195, 201, 227, 238]) 400 _ _ _ _ _ _ ?_
            simp (disch := omega) only [wp, stp, List.mem_cons, List.not_mem_nil, Nat.reduceEqDiff, or_false, or_self, false_or, or_true, true_or, Nat.reduceAdd, ↓reduceIte, List.getElem?_cons_zero, List.getElem?_cons_succ, nthV, List.set_cons_zero, List.set_cons_succ, noL, popA, catS, Value.category, List.length_cons, List.length_nil, Nat.reduceLT, Nat.reduceLeDiff, true_and, and_true, one0, zer1, imp_t, imp_f, ofN_nI, sdead, f20, f21, not_true_eq_false, upC_self, upC_ne, upC_upC, retC, fitC, isRefT, Option.toList_some, Option.toList_none, List.cons_append, List.nil_append, Nat.lt_add_one, Nat.zero_lt_succ, Nat.le_refl, Nat.add_zero, Nat.zero_add, Nat.one_ne_zero, Nat.zero_ne_one, Nat.lt_irrefl, List.length_set, fa_X5_read, hi, hd, hQ, mr_X5_read, rM_0, rM_1, rM_2, rM_3, rM_4, ru_0, ru_1, ru_2, ru_3, ru_4, rO_len, rg_0, rg_1, rg_2, rg_3, rg_4, rg_5, rg_6, rg_7, rg_8, rg_9, rg_10, rs_0, rs_1, rs_5, rs_6, rs_8, rs_9, rs_10]
            refine ⟨by omega, _, t_readSign hG (by omega) hrp hT mP (s := 59) (by omega), ?_⟩
            rintro v n1 z1 f1 ⟨⟨rfl, rfl⟩, ⟨q, hkT, rfl, rfl⟩ | ⟨q, rfl, rfl⟩⟩
            rotate_left
            · rw [if_neg q] at hr
              refine wp_sound (by rw [hi]; exact ok_X5_read) (hd := [41, 43, 93, 103, 110, 132, 163, 173, 195, 201, 227, 238]) 400 _ _ _ _ _ _ ?_
              simp (disch := omega) only [wp, stp, List.mem_cons, List.not_mem_nil, Nat.reduceEqDiff, or_false, or_self, false_or, or_true, true_or, Nat.reduceAdd, ↓reduceIte, List.getElem?_cons_zero, List.getElem?_cons_succ, nthV, List.set_cons_zero, List.set_cons_succ, noL, popA, catS, Value.category, List.length_cons, List.length_nil, Nat.reduceLT, Nat.reduceLeDiff, true_and, and_true, one0, zer1, imp_t, imp_f, ofN_nI, sdead, f20, f21, not_true_eq_false, upC_self, upC_ne, upC_upC, retC, fitC, isRefT, Option.toList_some, Option.toList_none, List.cons_append, List.nil_append, Nat.lt_add_one, Nat.zero_lt_succ, Nat.le_refl, Nat.add_zero, Nat.zero_add, Nat.one_ne_zero, Nat.zero_ne_one, Nat.lt_irrefl, List.length_set, fa_X5_read, hi, hd, hQ, mr_X5_read, rM_0, rM_1, rM_2, rM_3, rM_4, ru_0, ru_1, ru_2, ru_3, ru_4, rO_len, rg_0, rg_1, rg_2, rg_3, rg_4, rg_5, rg_6, rg_7, rg_8, rg_9, rg_10, rs_0, rs_1, rs_5, rs_6, rs_8, rs_9, rs_10]
              rw [hK, hU] at hr
              first | exact fun _ => RdR.err (I := upd (upd (upd I5 8 (nI (c2 + 1))) 0 1) 1 (nI (P k2))) hr.symm rfl (by rw [← hP0]; rfl) | exact RdR.err (I := upd (upd (upd I5 8 (nI (c2 + 1))) 0 1) 1 (nI (P k2))) hr.symm rfl (by rw [← hP0]; rfl)
            rw [if_pos q] at hr
            have hst : ∀ i, i < c2 → upd st5 c2 (nI (65536 * 14 + 0)) i = st5 i := fun i hi' => upd_lt hi'
            have hst2 : ∀ i, i < c1 + 1 → upd st5 c2 (nI (65536 * 14 + 0)) i = st3 i := fun i hi' => (hst i (by omega)).trans (rst i hi')
            have hLw : LwI (upd st5 c2 (nI (65536 * 14 + 0))) (c2 + 1) (ls ++ [(ev, some b)]) := LwI.when (gL.cong (fun i hi' => hst2 i (by omega))) (gE.cong (fun i hi' => hst2 i (by omega))) ((hst2 c1 (by omega)).trans g6s) (hbb.cong hst) upd_self
            have L := fun u4 => hnx hl (upd (upd I5 8 (nI (c2 + 1))) 6 (nI (k2 + 1))) _ (k2 + 1) (c2 + 1) (ev, some b) u4 ⟨⟨mP.1.1, rfl, rfl⟩, by omega, mP.2.2⟩ (by omega) ⟨(m2 0 (by omega) (by omega) (by omega)).trans g01.1, (m2 1 (by omega) (by omega) (by omega)).trans g01.2⟩ ((m2 9 (by omega) (by omega) (by omega)).trans g9) (ae_step (I := fun _ => 0) (I1 := I5) (K := K) (U := U) m10 rfl (by omega) (by omega)) hLw (by rw [show 16 - ls.length = m by omega]; exact hr)
            refine wp_sound (by rw [hi]; exact ok_X5_read) (hd := [41, 43, 93, 103, 110, 132, 163, 173, 195, 201, 227, 238]) 400 _ _ _ _ _ _ ?_
            simp (disch := omega) only [wp, stp, List.mem_cons, List.not_mem_nil, Nat.reduceEqDiff, or_false, or_self, false_or, or_true, true_or, Nat.reduceAdd, ↓reduceIte, List.getElem?_cons_zero, List.getElem?_cons_succ, nthV, List.set_cons_zero, List.set_cons_succ, noL, popA, catS, Value.category, List.length_cons, List.length_nil, Nat.reduceLT, Nat.reduceLeDiff, true_and, and_true, one0, zer1, imp_t, imp_f, ofN_nI, sdead, f20, f21, not_true_eq_false, upC_self, upC_ne, upC_upC, retC, fitC, isRefT, Option.toList_some, Option.toList_none, List.cons_append, List.nil_append, Nat.lt_add_one, Nat.zero_lt_succ, Nat.le_refl, Nat.add_zero, Nat.zero_add, Nat.one_ne_zero, Nat.zero_ne_one, Nat.lt_irrefl, List.length_set, fa_X5_read, hi, hd, hQ, mr_X5_read, rM_0, rM_1, rM_2, rM_3, rM_4, ru_0, ru_1, ru_2, ru_3, ru_4, rO_len, rg_0, rg_1, rg_2, rg_3, rg_4, rg_5, rg_6, rg_7, rg_8, rg_9, rg_10, rs_0, rs_1, rs_5, rs_6, rs_8, rs_9, rs_10]
            try simp only [m1f]
            try simp (disch := omega) only [nmod, nI_leI, nI_ltI, nI_eq, nI_clamp, vin_nI, nI_1, fa_lit, nI_add, nI_rm3, nI_rm2, pk_rem, pk_mul, pk_sub, pk_div, nI_eM, nI_Me, nI_pM, nI_pMz, nI_pM0, M1_lt, M1_le, nI_ltM, nI_leM, i8_nI, true_and, and_true, false_implies, true_implies, not_false_eq_true, not_true_eq_false, ne_eq, implies_true, Nat.not_lt_zero, Nat.zero_le, ite_min, max0, Nat.reduceLT, Nat.reduceLeDiff, Nat.reduceEqDiff, Nat.reduceAdd, Nat.reduceMul]
            try simp only [m1u]
            exact L _
        · rw [if_neg q261] at hr
          have L63 : V G X 163 [.ref rp, .ref 30, .int (nI len), .int (nI ls.length), .int 0] [] n3 z3 (rM f0 rp I3 kd pl vl st3) := by
            refine wp_sound (by rw [hi]; exact ok_X5_read) (hd := [41, 43, 93, 103, 110, 132, 163, 173, 195, 201, 227, 238]) 400 _ _ _ _ _ _ ?_
            simp (disch := omega) only [wp, stp, List.mem_cons, List.not_mem_nil, Nat.reduceEqDiff, or_false, or_self, false_or, or_true, true_or, Nat.reduceAdd, ↓reduceIte, List.getElem?_cons_zero, List.getElem?_cons_succ, nthV, List.set_cons_zero, List.set_cons_succ, noL, popA, catS, Value.category, List.length_cons, List.length_nil, Nat.reduceLT, Nat.reduceLeDiff, true_and, and_true, one0, zer1, imp_t, imp_f, ofN_nI, sdead, f20, f21, not_true_eq_false, upC_self, upC_ne, upC_upC, retC, fitC, isRefT, Option.toList_some, Option.toList_none, List.cons_append, List.nil_append, Nat.lt_add_one, Nat.zero_lt_succ, Nat.le_refl, Nat.add_zero, Nat.zero_add, Nat.one_ne_zero, Nat.zero_ne_one, Nat.lt_irrefl, List.length_set, fa_X5_read, hi, hd, hQ, mr_X5_read, rM_0, rM_1, rM_2, rM_3, rM_4, ru_0, ru_1, ru_2, ru_3, ru_4, rO_len, rg_0, rg_1, rg_2, rg_3, rg_4, rg_5, rg_6, rg_7, rg_8, rg_9, rg_10, rs_0, rs_1, rs_5, rs_6, rs_8, rs_9, rs_10]
            intro _ _
            refine ⟨by omega, _, t_addStep hG hrp (I := I3) g8 (by omega) (a := 15) (b := 0) (by omega) (by omega), ?_⟩
            rintro v n6 z6 f6 ⟨rfl, ⟨rfl, rfl⟩, ⟨-, rfl⟩ | ⟨hx, rfl⟩⟩
            rotate_left
            · omega
            have m2 : ∀ j, ¬ j = 8 → upd I3 8 (nI (c1 + 1 + 1)) j = I3 j := fun j b' => by rw [upd_ap, if_neg b']
            have mP : PSt T (upd I3 8 (nI (c1 + 1 + 1))) k1 (c1 + 1 + 1) := ⟨⟨g5, g6, upd_self⟩, by omega, gP.2.2⟩
            refine wp_sound (by rw [hi]; exact ok_X5_read) (hd := [41, 43, 93, 103, 110, 132, 163, 173, 195, 201, 227, 238]) 400 _ _ _ _ _ _ ?_
            simp (disch := omega) only [wp, stp, List.mem_cons, List.not_mem_nil, Nat.reduceEqDiff, or_false, or_self, false_or, or_true, true_or, Nat.reduceAdd, ↓reduceIte, List.getElem?_cons_zero, List.getElem?_cons_succ, nthV, List.set_cons_zero, List.set_cons_succ, noL, popA, catS, Value.category, List.length_cons, List.length_nil, Nat.reduceLT, Nat.reduceLeDiff, true_and, and_true, one0, zer1, imp_t, imp_f, ofN_nI, sdead, f20, f21, not_true_eq_false, upC_self, upC_ne, upC_upC, retC, fitC, isRefT, Option.toList_some, Option.toList_none, List.cons_append, List.nil_append, Nat.lt_add_one, Nat.zero_lt_succ, Nat.le_refl, Nat.add_zero, Nat.zero_add, Nat.one_ne_zero, Nat.zero_ne_one, Nat.lt_irrefl, List.length_set, fa_X5_read, hi, hd, hQ, mr_X5_read, rM_0, rM_1, rM_2, rM_3, rM_4, ru_0, ru_1, ru_2, ru_3, ru_4, rO_len, rg_0, rg_1, rg_2, rg_3, rg_4, rg_5, rg_6, rg_7, rg_8, rg_9, rg_10, rs_0, rs_1, rs_5, rs_6, rs_8, rs_9, rs_10]
            refine ⟨by omega, _, t_readSign hG (by omega) hrp hT mP (s := 59) (by omega), ?_⟩
            rintro v n1 z1 f1 ⟨⟨rfl, rfl⟩, ⟨q, hkT, rfl, rfl⟩ | ⟨q, rfl, rfl⟩⟩
            rotate_left
            · rw [if_neg q] at hr
              refine wp_sound (by rw [hi]; exact ok_X5_read) (hd := [41, 43, 93, 103, 110, 132, 163, 173, 195, 201, 227, 238]) 400 _ _ _ _ _ _ ?_
              simp (disch := omega) only [wp, stp, List.mem_cons, List.not_mem_nil, Nat.reduceEqDiff, or_false, or_self, false_or, or_true, true_or, Nat.reduceAdd, ↓reduceIte, List.getElem?_cons_zero, List.getElem?_cons_succ, nthV, List.set_cons_zero, List.set_cons_succ, noL, popA, catS, Value.category, List.length_cons, List.length_nil, Nat.reduceLT, Nat.reduceLeDiff, true_and, and_true, one0, zer1, imp_t, imp_f, ofN_nI, sdead, f20, f21, not_true_eq_false, upC_self, upC_ne, upC_upC, retC, fitC, isRefT, Option.toList_some, Option.toList_none, List.cons_append, List.nil_append, Nat.lt_add_one, Nat.zero_lt_succ, Nat.le_refl, Nat.add_zero, Nat.zero_add, Nat.one_ne_zero, Nat.zero_ne_one, Nat.lt_irrefl, List.length_set, fa_X5_read, hi, hd, hQ, mr_X5_read, rM_0, rM_1, rM_2, rM_3, rM_4, ru_0, ru_1, ru_2, ru_3, ru_4, rO_len, rg_0, rg_1, rg_2, rg_3, rg_4, rg_5, rg_6, rg_7, rg_8, rg_9, rg_10, rs_0, rs_1, rs_5, rs_6, rs_8, rs_9, rs_10]
              rw [hK, hU] at hr
              first | exact fun _ => RdR.err (I := upd (upd (upd I3 8 (nI (c1 + 1 + 1))) 0 1) 1 (nI (P k1))) hr.symm rfl (by rw [← hP0]; rfl) | exact RdR.err (I := upd (upd (upd I3 8 (nI (c1 + 1 + 1))) 0 1) 1 (nI (P k1))) hr.symm rfl (by rw [← hP0]; rfl)
            rw [if_pos q] at hr
            have hst : ∀ i, i < c1 + 1 → upd st3 (c1 + 1) (nI (65536 * 15 + 0)) i = st3 i := fun i hi' => upd_lt hi'
            have hLw : LwI (upd st3 (c1 + 1) (nI (65536 * 15 + 0))) (c1 + 2) (ls ++ [(ev, none)]) := LwI.alw (gL.cong (fun i hi' => hst i (by omega))) (gE.cong (fun i hi' => hst i (by omega))) ((hst c1 (by omega)).trans g6s) upd_self
            have L := fun u4 => hnx hl (upd (upd I3 8 (nI (c1 + 1 + 1))) 6 (nI (k1 + 1))) _ (k1 + 1) (c1 + 2) (ev, none) u4 ⟨⟨g5, rfl, rfl⟩, by omega, gP.2.2⟩ (by omega) g01 g9 (ae_step (I := fun _ => 0) (I1 := I3) (K := K) (U := U) g10 rfl (by omega) (by omega)) hLw (by rw [show 16 - ls.length = m by omega]; exact hr)
            refine wp_sound (by rw [hi]; exact ok_X5_read) (hd := [41, 43, 93, 103, 110, 132, 163, 173, 195, 201, 227, 238]) 400 _ _ _ _ _ _ ?_
            simp (disch := omega) only [wp, stp, List.mem_cons, List.not_mem_nil, Nat.reduceEqDiff, or_false, or_self, false_or, or_true, true_or, Nat.reduceAdd, ↓reduceIte, List.getElem?_cons_zero, List.getElem?_cons_succ, nthV, List.set_cons_zero, List.set_cons_succ, noL, popA, catS, Value.category, List.length_cons, List.length_nil, Nat.reduceLT, Nat.reduceLeDiff, true_and, and_true, one0, zer1, imp_t, imp_f, ofN_nI, sdead, f20, f21, not_true_eq_false, upC_self, upC_ne, upC_upC, retC, fitC, isRefT, Option.toList_some, Option.toList_none, List.cons_append, List.nil_append, Nat.lt_add_one, Nat.zero_lt_succ, Nat.le_refl, Nat.add_zero, Nat.zero_add, Nat.one_ne_zero, Nat.zero_ne_one, Nat.lt_irrefl, List.length_set, fa_X5_read, hi, hd, hQ, mr_X5_read, rM_0, rM_1, rM_2, rM_3, rM_4, ru_0, ru_1, ru_2, ru_3, ru_4, rO_len, rg_0, rg_1, rg_2, rg_3, rg_4, rg_5, rg_6, rg_7, rg_8, rg_9, rg_10, rs_0, rs_1, rs_5, rs_6, rs_8, rs_9, rs_10]
            try simp only [m1f]
            try simp (disch := omega) only [nmod, nI_leI, nI_ltI, nI_eq, nI_clamp, vin_nI, nI_1, fa_lit, nI_add, nI_rm3, nI_rm2, pk_rem, pk_mul, pk_sub, pk_div, nI_eM, nI_Me, nI_pM, nI_pMz, nI_pM0, M1_lt, M1_le, nI_ltM, nI_leM, i8_nI, true_and, and_true, false_implies, true_implies, not_false_eq_true, not_true_eq_false, ne_eq, implies_true, Nat.not_lt_zero, Nat.zero_le, ite_min, max0, Nat.reduceLT, Nat.reduceLeDiff, Nat.reduceEqDiff, Nat.reduceAdd, Nat.reduceMul]
            try simp only [m1u]
            exact L _
          refine wp_sound (by rw [hi]; exact ok_X5_read) (hd := [41, 43, 93, 103, 110, 132, 163, 173, 195, 201, 227, 238]) 400 _ _ _ _ _ _ ?_
          simp (disch := omega) only [wp, stp, List.mem_cons, List.not_mem_nil, Nat.reduceEqDiff, or_false, or_self, false_or, or_true, true_or, Nat.reduceAdd, ↓reduceIte, List.getElem?_cons_zero, List.getElem?_cons_succ, nthV, List.set_cons_zero, List.set_cons_succ, noL, popA, catS, Value.category, List.length_cons, List.length_nil, Nat.reduceLT, Nat.reduceLeDiff, true_and, and_true, one0, zer1, imp_t, imp_f, ofN_nI, sdead, f20, f21, not_true_eq_false, upC_self, upC_ne, upC_upC, retC, fitC, isRefT, Option.toList_some, Option.toList_none, List.cons_append, List.nil_append, Nat.lt_add_one, Nat.zero_lt_succ, Nat.le_refl, Nat.add_zero, Nat.zero_add, Nat.one_ne_zero, Nat.zero_ne_one, Nat.lt_irrefl, List.length_set, fa_X5_read, hi, hd, hQ, mr_X5_read, g6, hkk1, ek1, rM_0, rM_1, rM_2, rM_3, rM_4, ru_0, ru_1, ru_2, ru_3, ru_4, rO_len, rg_0, rg_1, rg_2, rg_3, rg_4, rg_5, rg_6, rg_7, rg_8, rg_9, rg_10, rs_0, rs_1, rs_5, rs_6, rs_8, rs_9, rs_10]
          try simp only [m1f]
          try simp (disch := omega) only [nmod, nI_leI, nI_ltI, nI_eq, nI_clamp, vin_nI, nI_1, fa_lit, nI_add, nI_rm3, nI_rm2, pk_rem, pk_mul, pk_sub, pk_div, nI_eM, nI_Me, nI_pM, nI_pMz, nI_pM0, M1_lt, M1_le, nI_ltM, nI_leM, i8_nI, true_and, and_true, false_implies, true_implies, not_false_eq_true, not_true_eq_false, ne_eq, implies_true, Nat.not_lt_zero, Nat.zero_le, ite_min, max0, Nat.reduceLT, Nat.reduceLeDiff, Nat.reduceEqDiff, Nat.reduceAdd, Nat.reduceMul]
          try simp only [m1u]
          exact ⟨by omega, fun _ => L63, fun h => absurd h q261⟩
    by_cases q257 : K k = 257
    · rw [if_pos q257] at hr
      have L := fin T kd pl vl I st k c ls u4 hT hP hck hI01 h9 hl16 hae hL hr.symm
      refine wp_sound (by rw [hi]; exact ok_X5_read) (hd := [41, 43, 93, 96, 103, 110, 132, 163, 173, 195, 201, 212, 227, 238]) 400 _ _ _ _ _ _ ?_
      simp (disch := omega) only [wp, stp, List.mem_cons, List.not_mem_nil, Nat.reduceEqDiff, or_false, or_self, false_or, or_true, true_or, Nat.reduceAdd, ↓reduceIte, List.getElem?_cons_zero, List.getElem?_cons_succ, nthV, List.set_cons_zero, List.set_cons_succ, noL, popA, catS, Value.category, List.length_cons, List.length_nil, Nat.reduceLT, Nat.reduceLeDiff, true_and, and_true, one0, zer1, imp_t, imp_f, ofN_nI, sdead, f20, f21, not_true_eq_false, upC_self, upC_ne, upC_upC, retC, fitC, isRefT, Option.toList_some, Option.toList_none, List.cons_append, List.nil_append, Nat.lt_add_one, Nat.zero_lt_succ, Nat.le_refl, Nat.add_zero, Nat.zero_add, Nat.one_ne_zero, Nat.zero_ne_one, Nat.lt_irrefl, List.length_set, fa_X5_read, hi, hd, hQ, mr_X5_read, h6, hkk, ek, rM_0, rM_1, rM_2, rM_3, rM_4, ru_0, ru_1, ru_2, ru_3, ru_4, rO_len, rg_0, rg_1, rg_2, rg_3, rg_4, rg_5, rg_6, rg_7, rg_8, rg_9, rg_10, rs_0, rs_1, rs_5, rs_6, rs_8, rs_9, rs_10]
      try simp only [m1f]
      try simp (disch := omega) only [nmod, nI_leI, nI_ltI, nI_eq, nI_clamp, vin_nI, nI_1, fa_lit, nI_add, nI_rm3, nI_rm2, pk_rem, pk_mul, pk_sub, pk_div, nI_eM, nI_Me, nI_pM, nI_pMz, nI_pM0, M1_lt, M1_le, nI_ltM, nI_leM, i8_nI, true_and, and_true, false_implies, true_implies, not_false_eq_true, not_true_eq_false, ne_eq, implies_true, Nat.not_lt_zero, Nat.zero_le, ite_min, max0, Nat.reduceLT, Nat.reduceLeDiff, Nat.reduceEqDiff, Nat.reduceAdd, Nat.reduceMul]
      try simp only [m1u]
      exact ⟨fun _ => L, fun _ => ⟨by omega, fun _ => L, fun h => absurd q257 h⟩⟩
    · by_cases q260 : K k = 260 ∧ ls.length = 16
      · rw [if_neg q257, if_pos q260.1, if_pos q260.2] at hr
        obtain ⟨q1, q2⟩ := q260
        refine wp_sound (by rw [hi]; exact ok_X5_read) (hd := [41, 43, 93, 96, 103, 110, 132, 163, 173, 195, 201, 212, 227, 238]) 400 _ _ _ _ _ _ ?_
        simp (disch := omega) only [wp, stp, List.mem_cons, List.not_mem_nil, Nat.reduceEqDiff, or_false, or_self, false_or, or_true, true_or, Nat.reduceAdd, ↓reduceIte, List.getElem?_cons_zero, List.getElem?_cons_succ, nthV, List.set_cons_zero, List.set_cons_succ, noL, popA, catS, Value.category, List.length_cons, List.length_nil, Nat.reduceLT, Nat.reduceLeDiff, true_and, and_true, one0, zer1, imp_t, imp_f, ofN_nI, sdead, f20, f21, not_true_eq_false, upC_self, upC_ne, upC_upC, retC, fitC, isRefT, Option.toList_some, Option.toList_none, List.cons_append, List.nil_append, Nat.lt_add_one, Nat.zero_lt_succ, Nat.le_refl, Nat.add_zero, Nat.zero_add, Nat.one_ne_zero, Nat.zero_ne_one, Nat.lt_irrefl, List.length_set, fa_X5_read, hi, hd, hQ, mr_X5_read, h6, hkk, ek, h9, rM_0, rM_1, rM_2, rM_3, rM_4, ru_0, ru_1, ru_2, ru_3, ru_4, rO_len, rg_0, rg_1, rg_2, rg_3, rg_4, rg_5, rg_6, rg_7, rg_8, rg_9, rg_10, rs_0, rs_1, rs_5, rs_6, rs_8, rs_9, rs_10]
        try simp only [m1f]
        try simp (disch := omega) only [nmod, nI_leI, nI_ltI, nI_eq, nI_clamp, vin_nI, nI_1, fa_lit, nI_add, nI_rm3, nI_rm2, pk_rem, pk_mul, pk_sub, pk_div, nI_eM, nI_Me, nI_pM, nI_pMz, nI_pM0, M1_lt, M1_le, nI_ltM, nI_leM, i8_nI, true_and, and_true, false_implies, true_implies, not_false_eq_true, not_true_eq_false, ne_eq, implies_true, Nat.not_lt_zero, Nat.zero_le, ite_min, max0, Nat.reduceLT, Nat.reduceLeDiff, Nat.reduceEqDiff, Nat.reduceAdd, Nat.reduceMul]
        try simp only [m1u]
        refine ⟨fun h => absurd h (by omega), fun _ => ⟨by omega, fun h => absurd h q257, fun _ => ⟨by omega, fun h => absurd q1 h, fun _ => ⟨fun h => absurd q2 h, fun _ => ⟨by omega, _, t_refuse hG hrp h6 (by omega) (nI 3), ?_⟩⟩⟩⟩⟩
        rintro v n2 z2 f2 ⟨rfl, rfl, rfl, rfl⟩
        refine wp_sound (by rw [hi]; exact ok_X5_read) (hd := [41, 43, 93, 103, 110, 132, 163, 173, 195, 201, 227, 238]) 400 _ _ _ _ _ _ ?_
        simp (disch := omega) only [wp, stp, List.mem_cons, List.not_mem_nil, Nat.reduceEqDiff, or_false, or_self, false_or, or_true, true_or, Nat.reduceAdd, ↓reduceIte, List.getElem?_cons_zero, List.getElem?_cons_succ, nthV, List.set_cons_zero, List.set_cons_succ, noL, popA, catS, Value.category, List.length_cons, List.length_nil, Nat.reduceLT, Nat.reduceLeDiff, true_and, and_true, one0, zer1, imp_t, imp_f, ofN_nI, sdead, f20, f21, not_true_eq_false, upC_self, upC_ne, upC_upC, retC, fitC, isRefT, Option.toList_some, Option.toList_none, List.cons_append, List.nil_append, Nat.lt_add_one, Nat.zero_lt_succ, Nat.le_refl, Nat.add_zero, Nat.zero_add, Nat.one_ne_zero, Nat.zero_ne_one, Nat.lt_irrefl, List.length_set, fa_X5_read, hi, hd, hQ, mr_X5_read, rM_0, rM_1, rM_2, rM_3, rM_4, ru_0, ru_1, ru_2, ru_3, ru_4, rO_len, rg_0, rg_1, rg_2, rg_3, rg_4, rg_5, rg_6, rg_7, rg_8, rg_9, rg_10, rs_0, rs_1, rs_5, rs_6, rs_8, rs_9, rs_10]
        rw [hK, hU] at hr
        exact RdR.err hr.symm rfl ((hR k hk).2.1.trans (by rw [hP0]))
      · have L := L96 q257 (fun q => by
          have : ¬ ls.length = 16 := fun q2 => q260 ⟨q, q2⟩
          omega)
        refine wp_sound (by rw [hi]; exact ok_X5_read) (hd := [41, 43, 93, 96, 103, 110, 132, 163, 173, 195, 201, 212, 227, 238]) 400 _ _ _ _ _ _ ?_
        simp (disch := omega) only [wp, stp, List.mem_cons, List.not_mem_nil, Nat.reduceEqDiff, or_false, or_self, false_or, or_true, true_or, Nat.reduceAdd, ↓reduceIte, List.getElem?_cons_zero, List.getElem?_cons_succ, nthV, List.set_cons_zero, List.set_cons_succ, noL, popA, catS, Value.category, List.length_cons, List.length_nil, Nat.reduceLT, Nat.reduceLeDiff, true_and, and_true, one0, zer1, imp_t, imp_f, ofN_nI, sdead, f20, f21, not_true_eq_false, upC_self, upC_ne, upC_upC, retC, fitC, isRefT, Option.toList_some, Option.toList_none, List.cons_append, List.nil_append, Nat.lt_add_one, Nat.zero_lt_succ, Nat.le_refl, Nat.add_zero, Nat.zero_add, Nat.one_ne_zero, Nat.zero_ne_one, Nat.lt_irrefl, List.length_set, fa_X5_read, hi, hd, hQ, mr_X5_read, h6, hkk, ek, h9, rM_0, rM_1, rM_2, rM_3, rM_4, ru_0, ru_1, ru_2, ru_3, ru_4, rO_len, rg_0, rg_1, rg_2, rg_3, rg_4, rg_5, rg_6, rg_7, rg_8, rg_9, rg_10, rs_0, rs_1, rs_5, rs_6, rs_8, rs_9, rs_10]
        try simp only [m1f]
        try simp (disch := omega) only [nmod, nI_leI, nI_ltI, nI_eq, nI_clamp, vin_nI, nI_1, fa_lit, nI_add, nI_rm3, nI_rm2, pk_rem, pk_mul, pk_sub, pk_div, nI_eM, nI_Me, nI_pM, nI_pMz, nI_pM0, M1_lt, M1_le, nI_ltM, nI_leM, i8_nI, true_and, and_true, false_implies, true_implies, not_false_eq_true, not_true_eq_false, ne_eq, implies_true, Nat.not_lt_zero, Nat.zero_le, ite_min, max0, Nat.reduceLT, Nat.reduceLeDiff, Nat.reduceEqDiff, Nat.reduceAdd, Nat.reduceMul]
        try simp only [m1u]
        exact ⟨fun h => absurd h (by omega), fun _ => ⟨by omega, fun h => absurd h q257, fun _ => ⟨by omega, fun _ => L, fun q => ⟨fun _ => L, fun h => absurd ⟨q, h⟩ q260⟩⟩⟩⟩
  have loop : ∀ T kd pl vl, TkR K U P T kd pl vl → ∀ r I st k c ls u4, ls.length + r = 16 → PSt T I k c → c ≤ 2 * k - 2 → (I 0 = 0 ∧ I 1 = -1) → I 9 = nI ls.length → I 10 = aeU 0 (evR K U 0 k) → LwI st c ls → pLw K U (17 - ls.length) k ls = pLw K U 17 0 [] → V G X 43 [.ref rp, .ref 30, .int (nI len), .int (nI ls.length), u4] [] n z (rM f0 rp I kd pl vl st) := by
    intro T kd pl vl hT r
    induction r with
    | zero => exact fun I st k c ls u4 hr hP hck h01 h9 hae hL hp => step T kd pl vl I st k c ls u4 hT hP hck h01 h9 (by omega) hae hL hp (fun h => by omega)
    | succ r ih =>
      intro I st k c ls u4 hr hP hck h01 h9 hae hL hp
      refine step T kd pl vl I st k c ls u4 hT hP hck h01 h9 (by omega) hae hL hp (fun h I st k c l u4 hP hck h01 h9 hae hL hp => ?_)
      have el : (ls ++ [l]).length = ls.length + 1 := by rw [List.length_append]; rfl
      have := ih I st k c (ls ++ [l]) u4 (by omega) hP hck h01 (by rw [el]; exact h9) hae hL (by rw [el, show 17 - (ls.length + 1) = 16 - ls.length by omega]; exact hp)
      rw [el] at this
      exact this
  have hmin : ¬ nI 400 < nI len := fun h => by
    have := (nI_ltI (by omega) (by omega)).mp h
    omega
  refine wp_sound (by rw [hi]; exact ok_X5_read) (hd := [41, 43, 93, 103, 110, 132, 163, 173, 195, 201, 227, 238]) 400 _ _ _ _ _ _ ?_
  simp (disch := omega) only [wp, stp, List.mem_cons, List.not_mem_nil, Nat.reduceEqDiff, or_false, or_self, false_or, or_true, true_or, Nat.reduceAdd, ↓reduceIte, List.getElem?_cons_zero, List.getElem?_cons_succ, nthV, List.set_cons_zero, List.set_cons_succ, noL, popA, catS, Value.category, List.length_cons, List.length_nil, Nat.reduceLT, Nat.reduceLeDiff, true_and, and_true, one0, zer1, imp_t, imp_f, ofN_nI, sdead, f20, f21, not_true_eq_false, upC_self, upC_ne, upC_upC, retC, fitC, isRefT, Option.toList_some, Option.toList_none, List.cons_append, List.nil_append, Nat.lt_add_one, Nat.zero_lt_succ, Nat.le_refl, Nat.add_zero, Nat.zero_add, Nat.one_ne_zero, Nat.zero_ne_one, Nat.lt_irrefl, List.length_set, fa_X5_read, hi, hd, hQ, mr_X5_read, o0, t1', rM_0, rM_1, rM_2, rM_3, rM_4, ru_0, ru_1, ru_2, ru_3, ru_4, rO_len, rg_0, rg_1, rg_2, rg_3, rg_4, rg_5, rg_6, rg_7, rg_8, rg_9, rg_10, rs_0, rs_1, rs_5, rs_6, rs_8, rs_9, rs_10]
  simp only [hmin, if_false]
  refine ⟨by omega, by omega, _, t_split hG (by omega) ⟨hrp, h49⟩ hA0 hT0, ?_⟩
  rintro v n1 z1 f1 ⟨rfl, rfl, rfl, T, I', kd', pl', vl', rfl, hI', h5', hT'⟩
  rw [← hK, ← hU, ← hP0] at hT'
  have L := loop T kd' pl' vl' hT' 16 I' st 0 0 [] dead rfl ⟨⟨h5', (hI' 6 (by omega)).trans rfl, (hI' 8 (by omega)).trans rfl⟩, by omega, Or.inl ((hI' 10 (by omega)).trans rfl)⟩ (by omega) ⟨(hI' 0 (by omega)).trans rfl, (hI' 1 (by omega)).trans rfl⟩ ((hI' 9 (by omega)).trans rfl) (by rw [aeU_f evR.nil]; exact (hI' 10 (by omega)).trans rfl) (LwI.nil st) rfl
  refine wp_sound (by rw [hi]; exact ok_X5_read) (hd := [41, 43, 93, 103, 110, 132, 163, 173, 195, 201, 227, 238]) 400 _ _ _ _ _ _ ?_
  simp (disch := omega) only [wp, stp, List.mem_cons, List.not_mem_nil, Nat.reduceEqDiff, or_false, or_self, false_or, or_true, true_or, Nat.reduceAdd, ↓reduceIte, List.getElem?_cons_zero, List.getElem?_cons_succ, nthV, List.set_cons_zero, List.set_cons_succ, noL, popA, catS, Value.category, List.length_cons, List.length_nil, Nat.reduceLT, Nat.reduceLeDiff, true_and, and_true, one0, zer1, imp_t, imp_f, ofN_nI, sdead, f20, f21, not_true_eq_false, upC_self, upC_ne, upC_upC, retC, fitC, isRefT, Option.toList_some, Option.toList_none, List.cons_append, List.nil_append, Nat.lt_add_one, Nat.zero_lt_succ, Nat.le_refl, Nat.add_zero, Nat.zero_add, Nat.one_ne_zero, Nat.zero_ne_one, Nat.lt_irrefl, List.length_set, fa_X5_read, hi, hd, hQ, mr_X5_read, rM_0, rM_1, rM_2, rM_3, rM_4, ru_0, ru_1, ru_2, ru_3, ru_4, rO_len, rg_0, rg_1, rg_2, rg_3, rg_4, rg_5, rg_6, rg_7, rg_8, rg_9, rg_10, rs_0, rs_1, rs_5, rs_6, rs_8, rs_9, rs_10]
  exact L
end Rd7
