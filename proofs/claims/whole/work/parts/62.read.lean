-- Reader: the small methods
set_option maxRecDepth 100000
set_option maxHeartbeats 4000000
theorem nI_or (x y : Nat) : nI x ||| nI y = nI (x ||| y) := by
  apply Int32.toBitVec_inj.mp
  show (nI x).toBitVec ||| (nI y).toBitVec = (nI (x ||| y)).toBitVec
  show BitVec.ofNat 32 x ||| BitVec.ofNat 32 y = BitVec.ofNat 32 (x ||| y)
  exact BitVec.ofNat_or.symm
theorem stp_enc {a b : Nat} (ha : a < 16) (hb : b < 65536) : nI a <<< ((16 : Int32) &&& 31) ||| nI b = nI (65536 * a + b) := by
  rw [pk_shlN (16 &&& 31) 16 (by decide) (by omega), nI_or]
  congr 1
  have := Nat.shiftLeft_add_eq_or_of_lt (i := 16) (b := b) (by omega) a
  rw [Nat.shiftLeft_eq] at this
  omega
noncomputable def aeU (ae : Int32) (p : Prop) : Int32 := @ite _ p (Classical.propDecidable _) 1 ae
theorem aeU_f {ae : Int32} {p : Prop} (h : ¬ p) : aeU ae p = ae := by unfold aeU; rw [if_neg h]
theorem aeU_t {ae : Int32} {p : Prop} (h : p) : aeU ae p = 1 := by unfold aeU; rw [if_pos h]
theorem aeU_or {ae : Int32} {p q : Prop} : aeU (aeU ae p) q = aeU ae (p ∨ q) := by
  by_cases hq : q
  · rw [aeU_t hq, aeU_t (Or.inr hq)]
  · rw [aeU_f hq]
    by_cases hp : p
    · rw [aeU_t hp, aeU_t (Or.inl hp)]
    · rw [aeU_f hp, aeU_f (fun z => by rcases z with z | z; exact hp z; exact hq z)]
theorem aeU_01 {ae : Int32} {p : Prop} (h : ae = 0 ∨ ae = 1) : aeU ae p = 0 ∨ aeU ae p = 1 := by
  by_cases hp : p
  · exact Or.inr (aeU_t hp)
  · rw [aeU_f hp]; exact h
theorem aeU_c {ae : Int32} {p q : Prop} (h : p ↔ q) : aeU ae p = aeU ae q := by
  by_cases hp : p
  · rw [aeU_t hp, aeU_t (h.mp hp)]
  · rw [aeU_f hp, aeU_f (fun z => hp (h.mpr z))]
/-- the tokens in the reader's rows -/
def TkR (K V P : Nat → Nat) (T : Nat) (kd pl vl : Nat → Int32) : Prop := TkS K V T ∧ (∀ j, j ≤ T → kd j = nI (K j) ∧ pl j = nI (P j) ∧ vl j = nI (V j)) ∧ ∀ j, j ≤ T → K j < 300 ∧ V j < 10000 ∧ P j ≤ 400
/-- the reader stands at token k with c steps -/
def PSt (T : Nat) (I : Nat → Int32) (k c : Nat) : Prop := (I 5 = nI (T + 1) ∧ I 6 = nI k ∧ I 8 = nI c) ∧ (k ≤ T ∧ c ≤ 800) ∧ (I 10 = 0 ∨ I 10 = 1)
def SmI (I I' : Nat → Int32) : Prop := ∀ j, ¬ j = 6 → ¬ j = 8 → ¬ j = 10 → I' j = I j
theorem SmI.refl (I : Nat → Int32) : SmI I I := fun _ _ _ _ => rfl
theorem SmI.trans {I I' I'' : Nat → Int32} (h : SmI I I') (h' : SmI I' I'') : SmI I I'' := fun j a b c => (h' j a b c).trans (h j a b c)
/-- how a piece of the reader ends -/
def RdP {α : Type} (beh : (Nat → Int32) → Nat → Nat → α → Prop) (K V P : Nat → Nat) (f0 : Mf) (rp : Nat) (I kd pl vl st : Nat → Int32) (k c : Nat) (r : Res α) (n z : Nat) : Po := fun v n' z' f' => (n' = n ∧ z' = z) ∧ match r with
  | .inl (why, j) => v = some (.int 0) ∧ ∃ I' st' c', f' = rM f0 rp I' kd pl vl st' ∧ (I' 0 = nI why ∧ I' 1 = nI (P j)) ∧ I' 8 = nI c' ∧ c' ≤ 800
  | .inr (k', e) => v = some (.int 1) ∧ ∃ I' st' c', f' = rM f0 rp I' kd pl vl st' ∧ SmI I I' ∧ (I' 6 = nI k' ∧ I' 8 = nI c' ∧ I' 10 = aeU (I 10) (evR K V k k')) ∧ (∀ i, i < c → st' i = st i) ∧ beh st' k' c' e
section Rd1
variable {G : Gam} {d n z rp T k c : Nat} {f0 : Mf} {I kd pl vl st : Nat → Int32} {K U P : Nat → Nat}
theorem t_addStep (hG : Ok G) (hrp : rp + 5 ≤ 1000000) (h8 : I 8 = nI c) (hc : c ≤ 800) {a b : Nat} (ha : a < 16) (hb : b < 65536) : Tr G d 67 [.ref rp, .int (nI a), .int (nI b)] n z (rM f0 rp I kd pl vl st) (fun v n' z' f' => v = none ∧ (n' = n ∧ z' = z) ∧ ((c < 800 ∧ f' = rM f0 rp (upd I 8 (nI (c + 1))) kd pl vl (upd st c (nI (65536 * a + b)))) ∨ (c = 800 ∧ f' = rM f0 rp I kd pl vl st))) := by
  have o0 : rp < 1000000 := by omega
  have o4 : rp + 4 < 1000000 := by omega
  have e8 : upd I 8 (nI c + 1) = upd I 8 (nI (c + 1)) := by rw [nI_1]
  have hcc : (nI c).toNatClampNeg = c := nI_clamp (by omega)
  refine Tr.of2 (ls0 := [.ref rp, .int (nI a), .int (nI b)]) hG mo_X5_addStep (Nat.le_of_ble_eq_true rfl) rfl ?_
  intro X hi hd hXn hXz hXf hQ
  refine wp_sound (by rw [hi]; exact ok_X5_addStep) (hd := []) 400 _ _ _ _ _ _ ?_
  simp (disch := omega) only [wp, stp, List.mem_cons, List.not_mem_nil, Nat.reduceEqDiff, or_false, or_self, false_or, or_true, true_or, Nat.reduceAdd, ↓reduceIte, List.getElem?_cons_zero, List.getElem?_cons_succ, nthV, List.set_cons_zero, List.set_cons_succ, noL, popA, catS, Value.category, List.length_cons, List.length_nil, Nat.reduceLT, Nat.reduceLeDiff, true_and, and_true, one0, zer1, imp_t, imp_f, ofN_nI, sdead, f20, f21, not_true_eq_false, upC_self, upC_ne, upC_upC, retC, fitC, isRefT, Option.toList_some, Option.toList_none, List.cons_append, List.nil_append, Nat.lt_add_one, Nat.zero_lt_succ, Nat.le_refl, Nat.add_zero, Nat.zero_add, Nat.one_ne_zero, Nat.zero_ne_one, Nat.lt_irrefl, List.length_set, fa_X5_addStep, hi, hd, hQ, mr_X5_addStep, h8, o0, o4, stp_enc ha hb, hcc, rM_0, rM_1, rM_2, rM_3, rM_4, ru_0, ru_1, ru_2, ru_3, ru_4, rO_len, rg_0, rg_1, rg_2, rg_3, rg_4, rg_5, rg_6, rg_7, rg_8, rg_9, rg_10, rs_0, rs_1, rs_5, rs_6, rs_8, rs_9, rs_10]
  rw [nI_leI (by omega) (by omega)]
  refine ⟨fun h => Or.inr (by omega), fun h => ⟨(vin_nI (by omega)).mpr (by omega), Or.inl ⟨by omega, by rw [e8]⟩⟩⟩
theorem t_goOn (hG : Ok G) (hrp : rp + 5 ≤ 1000000) (hP : PSt T I k c) (hT : T ≤ 400) (hk : k < T) : Tr G d 66 [.ref rp] n z (rM f0 rp I kd pl vl st) (fun v n' z' f' => v = none ∧ n' = n ∧ z' = z ∧ f' = rM f0 rp (upd I 6 (nI (k + 1))) kd pl vl st) := by
  obtain ⟨⟨h5, h6, h8⟩, -⟩ := hP
  have o0 : rp < 1000000 := by omega
  refine Tr.of2 (ls0 := [.ref rp]) hG mo_X5_goOn (Nat.le_of_ble_eq_true rfl) rfl ?_
  intro X hi hd hXn hXz hXf hQ
  refine wp_sound (by rw [hi]; exact ok_X5_goOn) (hd := []) 400 _ _ _ _ _ _ ?_
  simp only [wp, stp, List.mem_cons, List.not_mem_nil, Nat.reduceEqDiff, or_false, or_self, false_or, or_true, true_or, Nat.reduceAdd, ↓reduceIte, List.getElem?_cons_zero, List.getElem?_cons_succ, nthV, List.set_cons_zero, List.set_cons_succ, noL, popA, catS, Value.category, List.length_cons, List.length_nil, Nat.reduceLT, Nat.reduceLeDiff, true_and, and_true, one0, zer1, imp_t, imp_f, ofN_nI, sdead, f20, f21, not_true_eq_false, upC_ap, upC_upC, retC, fitC, isRefT, Option.toList_some, Option.toList_none, List.cons_append, List.nil_append, Nat.lt_add_one, Nat.zero_lt_succ, Nat.le_refl, Nat.add_zero, Nat.zero_add, Nat.one_ne_zero, Nat.zero_ne_one, Nat.lt_irrefl, List.length_set, fa_X5_goOn, hi, hd, hQ, mr_X5_goOn, h5, h6, o0, rM_0, rM_1, rM_2, rM_3, rM_4, ru_0, ru_1, ru_2, ru_3, ru_4, rO_len, rg_0, rg_1, rg_2, rg_3, rg_4, rg_5, rg_6, rg_7, rg_8, rg_9, rg_10, rs_0, rs_1, rs_5, rs_6, rs_8, rs_9, rs_10]
  try simp only [m1f]
  try simp (disch := omega) only [nmod, nI_leI, nI_ltI, nI_eq, nI_clamp, vin_nI, nI_1, fa_lit, nI_add, nI_rm3, nI_rm2, pk_rem, pk_mul, pk_sub, pk_div, nI_eM, nI_Me, nI_pM, nI_pMz, nI_pM0, M1_lt, M1_le, nI_ltM, nI_leM, i8_nI, true_and, and_true, false_implies, true_implies, not_false_eq_true, not_true_eq_false, ne_eq, implies_true, Nat.not_lt_zero, Nat.zero_le, ite_min, max0, Nat.reduceLT, Nat.reduceLeDiff, Nat.reduceEqDiff, Nat.reduceAdd, Nat.reduceMul]
  try simp only [m1u]
  exact fun h => absurd h (by omega)
theorem t_refuse (hG : Ok G) (hrp : rp + 5 ≤ 1000000) (h6 : I 6 = nI k) (hk : k ≤ 400) (why : Int32) : Tr G d 65 [.ref rp, .int why] n z (rM f0 rp I kd pl vl st) (fun v n' z' f' => v = some (.int 0) ∧ n' = n ∧ z' = z ∧ f' = rM f0 rp (upd (upd I 0 why) 1 (pl k)) kd pl vl st) := by
  have o0 : rp < 1000000 := by omega
  have hck : (nI k).toNatClampNeg = k := nI_clamp (by omega)
  have e6 : upd I 0 why 6 = nI k := h6
  have hin : vp_in (nI k) 401 := (vin_nI (by omega)).mpr (by omega)
  refine Tr.of2 (ls0 := [.ref rp, .int why]) hG mo_X5_refuse (Nat.le_of_ble_eq_true rfl) rfl ?_
  intro X hi hd hXn hXz hXf hQ
  refine wp_sound (by rw [hi]; exact ok_X5_refuse) (hd := []) 400 _ _ _ _ _ _ ?_
  simp (disch := omega) only [wp, stp, List.mem_cons, List.not_mem_nil, Nat.reduceEqDiff, or_false, or_self, false_or, or_true, true_or, Nat.reduceAdd, ↓reduceIte, List.getElem?_cons_zero, List.getElem?_cons_succ, nthV, List.set_cons_zero, List.set_cons_succ, noL, popA, catS, Value.category, List.length_cons, List.length_nil, Nat.reduceLT, Nat.reduceLeDiff, true_and, and_true, one0, zer1, imp_t, imp_f, ofN_nI, sdead, f20, f21, not_true_eq_false, upC_self, upC_ne, upC_upC, retC, fitC, isRefT, Option.toList_some, Option.toList_none, List.cons_append, List.nil_append, Nat.lt_add_one, Nat.zero_lt_succ, Nat.le_refl, Nat.add_zero, Nat.zero_add, Nat.one_ne_zero, Nat.zero_ne_one, Nat.lt_irrefl, List.length_set, fa_X5_refuse, hi, hd, hQ, mr_X5_refuse, e6, o0, hck, rM_0, rM_1, rM_2, rM_3, rM_4, ru_0, ru_1, ru_2, ru_3, ru_4, rO_len, rg_0, rg_1, rg_2, rg_3, rg_4, rg_5, rg_6, rg_7, rg_8, rg_9, rg_10, rs_0, rs_1, rs_5, rs_6, rs_8, rs_9, rs_10]
  exact hin
theorem t_readSign (hG : Ok G) (hd1 : 1 ≤ d) (hrp : rp + 5 ≤ 1000000) (hT : TkR K U P T kd pl vl) (hP : PSt T I k c) {s : Nat} (hs : s < 300 ∧ ¬ s = 257) : Tr G d 68 [.ref rp, .int (nI s)] n z (rM f0 rp I kd pl vl st) (fun v n' z' f' => (n' = n ∧ z' = z) ∧ ((K k = s ∧ k < T ∧ v = some (.int 1) ∧ f' = rM f0 rp (upd I 6 (nI (k + 1))) kd pl vl st) ∨ (¬ K k = s ∧ v = some (.int 0) ∧ f' = rM f0 rp (upd (upd I 0 1) 1 (nI (P k))) kd pl vl st))) := by
  obtain ⟨⟨h5, h6, h8⟩, ⟨hk, hc⟩, h10⟩ := id hP
  obtain ⟨hS, hR, hB⟩ := hT
  have hT4 := hS.1
  have hck : (nI k).toNatClampNeg = k := nI_clamp (by omega)
  have ek := (hR k hk).1
  have bk := (hB k hk).1
  refine Tr.of2 (ls0 := [.ref rp, .int (nI s)]) hG mo_X5_readSign (Nat.le_of_ble_eq_true rfl) rfl ?_
  intro X hi hd hXn hXz hXf hQ
  refine wp_sound (by rw [hi]; exact ok_X5_readSign) (hd := [18, 23]) 400 _ _ _ _ _ _ ?_
  simp (disch := omega) only [wp, stp, List.mem_cons, List.not_mem_nil, Nat.reduceEqDiff, or_false, or_self, false_or, or_true, true_or, Nat.reduceAdd, ↓reduceIte, List.getElem?_cons_zero, List.getElem?_cons_succ, nthV, List.set_cons_zero, List.set_cons_succ, noL, popA, catS, Value.category, List.length_cons, List.length_nil, Nat.reduceLT, Nat.reduceLeDiff, true_and, and_true, one0, zer1, imp_t, imp_f, ofN_nI, sdead, f20, f21, not_true_eq_false, upC_self, upC_ne, upC_upC, retC, fitC, isRefT, Option.toList_some, Option.toList_none, List.cons_append, List.nil_append, Nat.lt_add_one, Nat.zero_lt_succ, Nat.le_refl, Nat.add_zero, Nat.zero_add, Nat.one_ne_zero, Nat.zero_ne_one, Nat.lt_irrefl, List.length_set, fa_X5_readSign, hi, hd, hQ, mr_X5_readSign, h6, hck, ek, rM_0, rM_1, rM_2, rM_3, rM_4, ru_0, ru_1, ru_2, ru_3, ru_4, rO_len, rg_0, rg_1, rg_2, rg_3, rg_4, rg_5, rg_6, rg_7, rg_8, rg_9, rg_10, rs_0, rs_1, rs_5, rs_6, rs_8, rs_9, rs_10]
  rw [nI_eq (by omega) (by omega)]
  refine ⟨(vin_nI (by omega)).mpr (by omega), fun h => ⟨by omega, _, t_goOn hG hrp hP hT4 (hS.lt hk (by omega)), ?_⟩, fun h => ⟨by omega, _, t_refuse hG hrp h6 (by omega) 1, ?_⟩⟩
  · rintro v n1 z1 f1 ⟨rfl, rfl, rfl, rfl⟩
    refine wp_sound (by rw [hi]; exact ok_X5_readSign) (hd := [18, 23]) 400 _ _ _ _ _ _ ?_
    simp (disch := omega) only [wp, stp, List.mem_cons, List.not_mem_nil, Nat.reduceEqDiff, or_false, or_self, false_or, or_true, true_or, Nat.reduceAdd, ↓reduceIte, List.getElem?_cons_zero, List.getElem?_cons_succ, nthV, List.set_cons_zero, List.set_cons_succ, noL, popA, catS, Value.category, List.length_cons, List.length_nil, Nat.reduceLT, Nat.reduceLeDiff, true_and, and_true, one0, zer1, imp_t, imp_f, ofN_nI, sdead, f20, f21, not_true_eq_false, upC_self, upC_ne, upC_upC, retC, fitC, isRefT, Option.toList_some, Option.toList_none, List.cons_append, List.nil_append, Nat.lt_add_one, Nat.zero_lt_succ, Nat.le_refl, Nat.add_zero, Nat.zero_add, Nat.one_ne_zero, Nat.zero_ne_one, Nat.lt_irrefl, List.length_set, fa_X5_readSign, hi, hd, hQ, mr_X5_readSign, rM_0, rM_1, rM_2, rM_3, rM_4, ru_0, ru_1, ru_2, ru_3, ru_4, rO_len, rg_0, rg_1, rg_2, rg_3, rg_4, rg_5, rg_6, rg_7, rg_8, rg_9, rg_10, rs_0, rs_1, rs_5, rs_6, rs_8, rs_9, rs_10]
    exact Or.inl ⟨h, hS.lt hk (by omega)⟩
  · rintro v n1 z1 f1 ⟨rfl, rfl, rfl, rfl⟩
    refine wp_sound (by rw [hi]; exact ok_X5_readSign) (hd := [18, 23]) 400 _ _ _ _ _ _ ?_
    simp (disch := omega) only [wp, stp, List.mem_cons, List.not_mem_nil, Nat.reduceEqDiff, or_false, or_self, false_or, or_true, true_or, Nat.reduceAdd, ↓reduceIte, List.getElem?_cons_zero, List.getElem?_cons_succ, nthV, List.set_cons_zero, List.set_cons_succ, noL, popA, catS, Value.category, List.length_cons, List.length_nil, Nat.reduceLT, Nat.reduceLeDiff, true_and, and_true, one0, zer1, imp_t, imp_f, ofN_nI, sdead, f20, f21, not_true_eq_false, upC_self, upC_ne, upC_upC, retC, fitC, isRefT, Option.toList_some, Option.toList_none, List.cons_append, List.nil_append, Nat.lt_add_one, Nat.zero_lt_succ, Nat.le_refl, Nat.add_zero, Nat.zero_add, Nat.one_ne_zero, Nat.zero_ne_one, Nat.lt_irrefl, List.length_set, fa_X5_readSign, hi, hd, hQ, mr_X5_readSign, rM_0, rM_1, rM_2, rM_3, rM_4, ru_0, ru_1, ru_2, ru_3, ru_4, rO_len, rg_0, rg_1, rg_2, rg_3, rg_4, rg_5, rg_6, rg_7, rg_8, rg_9, rg_10, rs_0, rs_1, rs_5, rs_6, rs_8, rs_9, rs_10]
    exact Or.inr ⟨h, by rw [(hR k hk).2.1]⟩
/-- a unit: one step -/
def behU (c a : Nat) : (Nat → Int32) → Nat → Nat → EV → Prop := fun st' _ c' u => c' = c + 1 ∧ ∃ v, v < 65536 ∧ st' c = nI (65536 * a + v) ∧ ∀ F, stV F v = u F
theorem upd_lt {g : Nat → Int32} {i : Nat} {v : Int32} {j : Nat} (h : j < i) : upd g i v j = g j := by rw [upd_ap, if_neg (by omega)]
theorem upd_self {g : Nat → Int32} {i : Nat} {v : Int32} : upd g i v i = v := by rw [upd_ap, if_pos rfl]
theorem t_readUnit (hG : Ok G) (hd1 : 1 ≤ d) (hrp : rp + 5 ≤ 1000000) (hT : TkR K U P T kd pl vl) (hP : PSt T I k c) (hc8 : c < 800) {a : Nat} (ha : a < 16) : Tr G d 73 [.ref rp, .int (nI a)] n z (rM f0 rp I kd pl vl st) (RdP (behU c a) K U P f0 rp I kd pl vl st k c (pUn K U k) n z) := by
  obtain ⟨⟨h5, h6, h8⟩, ⟨hk, hc⟩, h10⟩ := id hP
  obtain ⟨hS, hR, hB⟩ := id hT
  have hT4 := hS.1
  have o0 : rp < 1000000 := by omega
  have hck : (nI k).toNatClampNeg = k := nI_clamp (by omega)
  obtain ⟨ek, ep, ev⟩ := hR k hk
  obtain ⟨bk, bv, bp⟩ := hB k hk
  have hin : vp_in (nI k) 401 := (vin_nI (by omega)).mpr (by omega)
  refine Tr.of2 (ls0 := [.ref rp, .int (nI a)]) hG mo_X5_readUnit (Nat.le_of_ble_eq_true rfl) rfl ?_
  intro X hi hd hXn hXz hXf hQ
  have h102 : ∀ I' st', PSt T I' k (c + 1) → SmI I I' → k < T → (I' 10 = aeU (I 10) (evR K U k (k + 1))) → (∀ i, i < c → st' i = st i) → (∃ u, pUn K U k = .inr (k + 1, u) ∧ ∃ v, v < 65536 ∧ st' c = nI (65536 * a + v) ∧ ∀ F, stV F v = u F) → V G X 102 [.ref rp, .int (nI a)] [] n z (rM f0 rp I' kd pl vl st') := by
    rintro I' st' hP' hI' hkT hae hst ⟨u, hu, hv⟩
    rw [hu] at hQ
    refine wp_sound (by rw [hi]; exact ok_X5_readUnit) (hd := [29, 65, 101, 106]) 400 _ _ _ _ _ _ ?_
    simp (disch := omega) only [wp, stp, List.mem_cons, List.not_mem_nil, Nat.reduceEqDiff, or_false, or_self, false_or, or_true, true_or, Nat.reduceAdd, ↓reduceIte, List.getElem?_cons_zero, List.getElem?_cons_succ, nthV, List.set_cons_zero, List.set_cons_succ, noL, popA, catS, Value.category, List.length_cons, List.length_nil, Nat.reduceLT, Nat.reduceLeDiff, true_and, and_true, one0, zer1, imp_t, imp_f, ofN_nI, sdead, f20, f21, not_true_eq_false, upC_self, upC_ne, upC_upC, retC, fitC, isRefT, Option.toList_some, Option.toList_none, List.cons_append, List.nil_append, Nat.lt_add_one, Nat.zero_lt_succ, Nat.le_refl, Nat.add_zero, Nat.zero_add, Nat.one_ne_zero, Nat.zero_ne_one, Nat.lt_irrefl, List.length_set, fa_X5_readUnit, hi, hd, hQ, mr_X5_readUnit, rM_0, rM_1, rM_2, rM_3, rM_4, ru_0, ru_1, ru_2, ru_3, ru_4, rO_len, rg_0, rg_1, rg_2, rg_3, rg_4, rg_5, rg_6, rg_7, rg_8, rg_9, rg_10, rs_0, rs_1, rs_5, rs_6, rs_8, rs_9, rs_10]
    refine ⟨by omega, _, t_goOn hG hrp hP' hT4 hkT, ?_⟩
    rintro v n1 z1 f1 ⟨rfl, rfl, rfl, rfl⟩
    refine wp_sound (by rw [hi]; exact ok_X5_readUnit) (hd := [29, 65, 101, 106]) 400 _ _ _ _ _ _ ?_
    simp (disch := omega) only [wp, stp, List.mem_cons, List.not_mem_nil, Nat.reduceEqDiff, or_false, or_self, false_or, or_true, true_or, Nat.reduceAdd, ↓reduceIte, List.getElem?_cons_zero, List.getElem?_cons_succ, nthV, List.set_cons_zero, List.set_cons_succ, noL, popA, catS, Value.category, List.length_cons, List.length_nil, Nat.reduceLT, Nat.reduceLeDiff, true_and, and_true, one0, zer1, imp_t, imp_f, ofN_nI, sdead, f20, f21, not_true_eq_false, upC_self, upC_ne, upC_upC, retC, fitC, isRefT, Option.toList_some, Option.toList_none, List.cons_append, List.nil_append, Nat.lt_add_one, Nat.zero_lt_succ, Nat.le_refl, Nat.add_zero, Nat.zero_add, Nat.one_ne_zero, Nat.zero_ne_one, Nat.lt_irrefl, List.length_set, fa_X5_readUnit, hi, hd, hQ, mr_X5_readUnit, RdP, rM_0, rM_1, rM_2, rM_3, rM_4, ru_0, ru_1, ru_2, ru_3, ru_4, rO_len, rg_0, rg_1, rg_2, rg_3, rg_4, rg_5, rg_6, rg_7, rg_8, rg_9, rg_10, rs_0, rs_1, rs_5, rs_6, rs_8, rs_9, rs_10]
    exact ⟨_, _, c + 1, rfl, fun j a1 a2 a3 => by rw [upd_ap, if_neg a1]; exact hI' j a1 a2 a3, ⟨rfl, hP'.1.2.2, hae⟩, hst, rfl, hv⟩
  by_cases q8 : K k = 258
  · have hu : pUn K U k = .inr (k + 1, fun _ => nI (U k)) := if_pos q8
    have hkT := hS.lt hk (by omega)
    rw [q8] at ek
    refine wp_sound (by rw [hi]; exact ok_X5_readUnit) (hd := [29, 65, 101, 102, 106]) 400 _ _ _ _ _ _ ?_
    simp (disch := omega) only [wp, stp, List.mem_cons, List.not_mem_nil, Nat.reduceEqDiff, or_false, or_self, false_or, or_true, true_or, Nat.reduceAdd, ↓reduceIte, List.getElem?_cons_zero, List.getElem?_cons_succ, nthV, List.set_cons_zero, List.set_cons_succ, noL, popA, catS, Value.category, List.length_cons, List.length_nil, Nat.reduceLT, Nat.reduceLeDiff, true_and, and_true, one0, zer1, imp_t, imp_f, ofN_nI, sdead, f20, f21, not_true_eq_false, upC_self, upC_ne, upC_upC, retC, fitC, isRefT, Option.toList_some, Option.toList_none, List.cons_append, List.nil_append, Nat.lt_add_one, Nat.zero_lt_succ, Nat.le_refl, Nat.add_zero, Nat.zero_add, Nat.one_ne_zero, Nat.zero_ne_one, Nat.lt_irrefl, List.length_set, fa_X5_readUnit, hi, hd, hQ, mr_X5_readUnit, h6, hck, ek, ev, rM_0, rM_1, rM_2, rM_3, rM_4, ru_0, ru_1, ru_2, ru_3, ru_4, rO_len, rg_0, rg_1, rg_2, rg_3, rg_4, rg_5, rg_6, rg_7, rg_8, rg_9, rg_10, rs_0, rs_1, rs_5, rs_6, rs_8, rs_9, rs_10]
    refine ⟨hin, fun h => absurd rfl h, fun _ => ⟨hin, by omega, _, t_addStep hG hrp h8 hc ha (show U k < 65536 by omega), ?_⟩⟩
    rintro v n1 z1 f1 ⟨rfl, ⟨rfl, rfl⟩, h⟩
    rcases h with ⟨-, rfl⟩ | ⟨q, -⟩
    · refine wp_sound (by rw [hi]; exact ok_X5_readUnit) (hd := [29, 65, 101, 102, 106]) 400 _ _ _ _ _ _ ?_
      simp (disch := omega) only [wp, stp, List.mem_cons, List.not_mem_nil, Nat.reduceEqDiff, or_false, or_self, false_or, or_true, true_or, Nat.reduceAdd, ↓reduceIte, List.getElem?_cons_zero, List.getElem?_cons_succ, nthV, List.set_cons_zero, List.set_cons_succ, noL, popA, catS, Value.category, List.length_cons, List.length_nil, Nat.reduceLT, Nat.reduceLeDiff, true_and, and_true, one0, zer1, imp_t, imp_f, ofN_nI, sdead, f20, f21, not_true_eq_false, upC_self, upC_ne, upC_upC, retC, fitC, isRefT, Option.toList_some, Option.toList_none, List.cons_append, List.nil_append, Nat.lt_add_one, Nat.zero_lt_succ, Nat.le_refl, Nat.add_zero, Nat.zero_add, Nat.one_ne_zero, Nat.zero_ne_one, Nat.lt_irrefl, List.length_set, fa_X5_readUnit, hi, hd, hQ, mr_X5_readUnit, rM_0, rM_1, rM_2, rM_3, rM_4, ru_0, ru_1, ru_2, ru_3, ru_4, rO_len, rg_0, rg_1, rg_2, rg_3, rg_4, rg_5, rg_6, rg_7, rg_8, rg_9, rg_10, rs_0, rs_1, rs_5, rs_6, rs_8, rs_9, rs_10]
      refine h102 _ _ ⟨⟨h5, h6, upd_self⟩, ⟨hk, by omega⟩, h10⟩ (fun j a1 a2 a3 => by rw [upd_ap, if_neg a2]) hkT ?_ (fun i hi' => upd_lt hi') ⟨_, hu, U k, by omega, upd_self, fun F => ?_⟩
      · rw [aeU_f (evR.one (by omega))]; rfl
      · unfold stV; rw [if_neg (by omega)]
    · omega
  · by_cases q9 : K k = 259
    · have hu : pUn K U k = .inr (k + 1, fun F => F (U k)) := by unfold pUn; rw [if_neg q8, if_pos q9]
      have hkT := hS.lt hk (by omega)
      have hV8 := (hS.2.2 k hkT).2.2.2 q9
      rw [q9] at ek
      have ne1 : ¬ nI 259 = (258 : Int32) := by decide
      have e10 : (10000 : Int32) + nI (U k) = nI (10000 + U k) := nI_add 10000 (U k)
      refine wp_sound (by rw [hi]; exact ok_X5_readUnit) (hd := [29, 65, 101, 102, 106]) 400 _ _ _ _ _ _ ?_
      simp (disch := omega) only [wp, stp, List.mem_cons, List.not_mem_nil, Nat.reduceEqDiff, or_false, or_self, false_or, or_true, true_or, Nat.reduceAdd, ↓reduceIte, List.getElem?_cons_zero, List.getElem?_cons_succ, nthV, List.set_cons_zero, List.set_cons_succ, noL, popA, catS, Value.category, List.length_cons, List.length_nil, Nat.reduceLT, Nat.reduceLeDiff, true_and, and_true, one0, zer1, imp_t, imp_f, ofN_nI, sdead, f20, f21, not_true_eq_false, upC_self, upC_ne, upC_upC, retC, fitC, isRefT, Option.toList_some, Option.toList_none, List.cons_append, List.nil_append, Nat.lt_add_one, Nat.zero_lt_succ, Nat.le_refl, Nat.add_zero, Nat.zero_add, Nat.one_ne_zero, Nat.zero_ne_one, Nat.lt_irrefl, List.length_set, fa_X5_readUnit, hi, hd, hQ, mr_X5_readUnit, h6, hck, ek, ev, e10, rM_0, rM_1, rM_2, rM_3, rM_4, ru_0, ru_1, ru_2, ru_3, ru_4, rO_len, rg_0, rg_1, rg_2, rg_3, rg_4, rg_5, rg_6, rg_7, rg_8, rg_9, rg_10, rs_0, rs_1, rs_5, rs_6, rs_8, rs_9, rs_10]
      refine ⟨hin, fun _ => ⟨hin, fun h => absurd rfl h, fun _ => ⟨hin, by omega, _, t_addStep hG hrp h8 hc ha (show 10000 + U k < 65536 by omega), ?_⟩⟩, fun h => absurd h ne1⟩
      rintro v n1 z1 f1 ⟨rfl, ⟨rfl, rfl⟩, h⟩
      rcases h with ⟨-, rfl⟩ | ⟨q, -⟩
      · have i6 : upd I 8 (nI (c + 1)) 6 = nI k := h6
        have i10 : upd I 8 (nI (c + 1)) 10 = I 10 := rfl
        have or1 : I 10 ||| 1 = 1 := by rcases h10 with e | e <;> rw [e] <;> rfl
        have or0 : I 10 ||| 0 = I 10 := by rcases h10 with e | e <;> rw [e] <;> rfl
        refine wp_sound (by rw [hi]; exact ok_X5_readUnit) (hd := [29, 65, 101, 102, 106]) 400 _ _ _ _ _ _ ?_
        simp (disch := omega) only [wp, stp, List.mem_cons, List.not_mem_nil, Nat.reduceEqDiff, or_false, or_self, false_or, or_true, true_or, Nat.reduceAdd, ↓reduceIte, List.getElem?_cons_zero, List.getElem?_cons_succ, nthV, List.set_cons_zero, List.set_cons_succ, noL, popA, catS, Value.category, List.length_cons, List.length_nil, Nat.reduceLT, Nat.reduceLeDiff, true_and, and_true, one0, zer1, imp_t, imp_f, ofN_nI, sdead, f20, f21, not_true_eq_false, upC_self, upC_ne, upC_upC, retC, fitC, isRefT, Option.toList_some, Option.toList_none, List.cons_append, List.nil_append, Nat.lt_add_one, Nat.zero_lt_succ, Nat.le_refl, Nat.add_zero, Nat.zero_add, Nat.one_ne_zero, Nat.zero_ne_one, Nat.lt_irrefl, List.length_set, fa_X5_readUnit, hi, hd, hQ, mr_X5_readUnit, i6, i10, hck, ev, o0, or1, or0, rM_0, rM_1, rM_2, rM_3, rM_4, ru_0, ru_1, ru_2, ru_3, ru_4, rO_len, rg_0, rg_1, rg_2, rg_3, rg_4, rg_5, rg_6, rg_7, rg_8, rg_9, rg_10, rs_0, rs_1, rs_5, rs_6, rs_8, rs_9, rs_10]
        have e7 : nI (U k) = 7 ↔ U k = 7 := nI_eq (b := 7) (by omega) (by omega)
        rw [e7]
        refine ⟨hin, fun h7 => ⟨h10, h102 _ _ ⟨⟨h5, h6, ?_⟩, ⟨hk, by omega⟩, ?_⟩ (fun j a1 a2 a3 => by rw [upd_ap, if_neg a3, upd_ap, if_neg a2]) hkT ?_ (fun i hi' => upd_lt hi') ⟨_, hu, 10000 + U k, by omega, upd_self, fun F => ?_⟩⟩, fun h7 => h102 _ _ ⟨⟨h5, h6, ?_⟩, ⟨hk, by omega⟩, ?_⟩ (fun j a1 a2 a3 => by rw [upd_ap, if_neg a3, upd_ap, if_neg a2]) hkT ?_ (fun i hi' => upd_lt hi') ⟨_, hu, 10000 + U k, by omega, upd_self, fun F => ?_⟩⟩
        · rfl
        · exact h10
        · rw [aeU_f (fun ⟨j, q1, q2, q3, q4⟩ => h7 (by rw [show k = j by omega]; exact q4)), upd_self]
        · unfold stV; rw [if_pos (by omega)]; congr 1; omega
        · rfl
        · exact Or.inr rfl
        · rw [aeU_t ⟨k, by omega, by omega, q9, h7⟩, upd_self]
        · unfold stV; rw [if_pos (by omega)]; congr 1; omega
      · omega
    · have hu : pUn K U k = .inl (1, k) := by unfold pUn; rw [if_neg q8, if_neg q9]
      rw [hu] at hQ
      have n1 : ¬ nI (K k) = (258 : Int32) := fun q => q8 ((nI_eq (b := 258) (by omega) (by omega)).mp q)
      have n2 : ¬ nI (K k) = (259 : Int32) := fun q => q9 ((nI_eq (b := 259) (by omega) (by omega)).mp q)
      refine wp_sound (by rw [hi]; exact ok_X5_readUnit) (hd := [29, 65, 101, 102, 106]) 400 _ _ _ _ _ _ ?_
      simp (disch := omega) only [wp, stp, List.mem_cons, List.not_mem_nil, Nat.reduceEqDiff, or_false, or_self, false_or, or_true, true_or, Nat.reduceAdd, ↓reduceIte, List.getElem?_cons_zero, List.getElem?_cons_succ, nthV, List.set_cons_zero, List.set_cons_succ, noL, popA, catS, Value.category, List.length_cons, List.length_nil, Nat.reduceLT, Nat.reduceLeDiff, true_and, and_true, one0, zer1, imp_t, imp_f, ofN_nI, sdead, f20, f21, not_true_eq_false, upC_self, upC_ne, upC_upC, retC, fitC, isRefT, Option.toList_some, Option.toList_none, List.cons_append, List.nil_append, Nat.lt_add_one, Nat.zero_lt_succ, Nat.le_refl, Nat.add_zero, Nat.zero_add, Nat.one_ne_zero, Nat.zero_ne_one, Nat.lt_irrefl, List.length_set, fa_X5_readUnit, hi, hd, hQ, mr_X5_readUnit, h6, hck, ek, rM_0, rM_1, rM_2, rM_3, rM_4, ru_0, ru_1, ru_2, ru_3, ru_4, rO_len, rg_0, rg_1, rg_2, rg_3, rg_4, rg_5, rg_6, rg_7, rg_8, rg_9, rg_10, rs_0, rs_1, rs_5, rs_6, rs_8, rs_9, rs_10]
      refine ⟨hin, fun _ => ⟨hin, fun _ => ⟨by omega, _, t_refuse hG hrp h6 (by omega) 1, ?_⟩, fun h => absurd h n2⟩, fun h => absurd h n1⟩
      rintro v n1 z1 f1 ⟨rfl, rfl, rfl, rfl⟩
      refine wp_sound (by rw [hi]; exact ok_X5_readUnit) (hd := [29, 65, 101, 106]) 400 _ _ _ _ _ _ ?_
      simp (disch := omega) only [wp, stp, List.mem_cons, List.not_mem_nil, Nat.reduceEqDiff, or_false, or_self, false_or, or_true, true_or, Nat.reduceAdd, ↓reduceIte, List.getElem?_cons_zero, List.getElem?_cons_succ, nthV, List.set_cons_zero, List.set_cons_succ, noL, popA, catS, Value.category, List.length_cons, List.length_nil, Nat.reduceLT, Nat.reduceLeDiff, true_and, and_true, one0, zer1, imp_t, imp_f, ofN_nI, sdead, f20, f21, not_true_eq_false, upC_self, upC_ne, upC_upC, retC, fitC, isRefT, Option.toList_some, Option.toList_none, List.cons_append, List.nil_append, Nat.lt_add_one, Nat.zero_lt_succ, Nat.le_refl, Nat.add_zero, Nat.zero_add, Nat.one_ne_zero, Nat.zero_ne_one, Nat.lt_irrefl, List.length_set, fa_X5_readUnit, hi, hd, hQ, mr_X5_readUnit, RdP, rM_0, rM_1, rM_2, rM_3, rM_4, ru_0, ru_1, ru_2, ru_3, ru_4, rO_len, rg_0, rg_1, rg_2, rg_3, rg_4, rg_5, rg_6, rg_7, rg_8, rg_9, rg_10, rs_0, rs_1, rs_5, rs_6, rs_8, rs_9, rs_10]
      exact ⟨_, _, c, rfl, ⟨rfl, ep⟩, h8, hc⟩
theorem t_readPart (hG : Ok G) (hd1 : 1 ≤ d) (hrp : rp + 5 ≤ 1000000) (hT : TkR K U P T kd pl vl) (hP : PSt T I k c) (hc8 : c < 800) : Tr G d 74 [.ref rp] n z (rM f0 rp I kd pl vl st) (RdP (fun st' _ c' d => c' = c + 1 ∧ (d < 10000 ∧ ¬ d = 0) ∧ st' c = nI (65536 * 2 + d)) K U P f0 rp I kd pl vl st k c (pPa K U k) n z) := by
  obtain ⟨⟨h5, h6, h8⟩, ⟨hk, hc⟩, h10⟩ := id hP
  obtain ⟨hS, hR, hB⟩ := id hT
  have hT4 := hS.1
  have hck : (nI k).toNatClampNeg = k := nI_clamp (by omega)
  obtain ⟨ek, ep, ev⟩ := hR k hk
  obtain ⟨bk, bv, bp⟩ := hB k hk
  have hin : vp_in (nI k) 401 := (vin_nI (by omega)).mpr (by omega)
  refine Tr.of2 (ls0 := [.ref rp]) hG mo_X5_readPart (Nat.le_of_ble_eq_true rfl) rfl ?_
  intro X hi hd hXn hXz hXf hQ
  by_cases q8 : K k = 258
  · have hkT := hS.lt hk (by omega)
    rw [q8] at ek
    by_cases q0 : U k = 0
    · have hu : pPa K U k = .inl (2, k) := by unfold pPa; rw [if_pos q8, if_pos q0]
      rw [hu] at hQ
      rw [q0] at ev
      refine wp_sound (by rw [hi]; exact ok_X5_readPart) (hd := [20, 38, 53, 57]) 400 _ _ _ _ _ _ ?_
      simp (disch := omega) only [wp, stp, List.mem_cons, List.not_mem_nil, Nat.reduceEqDiff, or_false, or_self, false_or, or_true, true_or, Nat.reduceAdd, ↓reduceIte, List.getElem?_cons_zero, List.getElem?_cons_succ, nthV, List.set_cons_zero, List.set_cons_succ, noL, popA, catS, Value.category, List.length_cons, List.length_nil, Nat.reduceLT, Nat.reduceLeDiff, true_and, and_true, one0, zer1, imp_t, imp_f, ofN_nI, sdead, f20, f21, not_true_eq_false, upC_self, upC_ne, upC_upC, retC, fitC, isRefT, Option.toList_some, Option.toList_none, List.cons_append, List.nil_append, Nat.lt_add_one, Nat.zero_lt_succ, Nat.le_refl, Nat.add_zero, Nat.zero_add, Nat.one_ne_zero, Nat.zero_ne_one, Nat.lt_irrefl, List.length_set, fa_X5_readPart, hi, hd, hQ, mr_X5_readPart, h6, hck, ek, ev, rM_0, rM_1, rM_2, rM_3, rM_4, ru_0, ru_1, ru_2, ru_3, ru_4, rO_len, rg_0, rg_1, rg_2, rg_3, rg_4, rg_5, rg_6, rg_7, rg_8, rg_9, rg_10, rs_0, rs_1, rs_5, rs_6, rs_8, rs_9, rs_10]
      refine ⟨hin, fun _ => ⟨hin, fun h => absurd rfl h, fun _ => ⟨by omega, _, t_refuse hG hrp h6 (by omega) 2, ?_⟩⟩, fun h => absurd rfl h⟩
      rintro v n1 z1 f1 ⟨rfl, rfl, rfl, rfl⟩
      refine wp_sound (by rw [hi]; exact ok_X5_readPart) (hd := [20, 38, 53, 57]) 400 _ _ _ _ _ _ ?_
      simp (disch := omega) only [wp, stp, List.mem_cons, List.not_mem_nil, Nat.reduceEqDiff, or_false, or_self, false_or, or_true, true_or, Nat.reduceAdd, ↓reduceIte, List.getElem?_cons_zero, List.getElem?_cons_succ, nthV, List.set_cons_zero, List.set_cons_succ, noL, popA, catS, Value.category, List.length_cons, List.length_nil, Nat.reduceLT, Nat.reduceLeDiff, true_and, and_true, one0, zer1, imp_t, imp_f, ofN_nI, sdead, f20, f21, not_true_eq_false, upC_self, upC_ne, upC_upC, retC, fitC, isRefT, Option.toList_some, Option.toList_none, List.cons_append, List.nil_append, Nat.lt_add_one, Nat.zero_lt_succ, Nat.le_refl, Nat.add_zero, Nat.zero_add, Nat.one_ne_zero, Nat.zero_ne_one, Nat.lt_irrefl, List.length_set, fa_X5_readPart, hi, hd, hQ, mr_X5_readPart, RdP, rM_0, rM_1, rM_2, rM_3, rM_4, ru_0, ru_1, ru_2, ru_3, ru_4, rO_len, rg_0, rg_1, rg_2, rg_3, rg_4, rg_5, rg_6, rg_7, rg_8, rg_9, rg_10, rs_0, rs_1, rs_5, rs_6, rs_8, rs_9, rs_10]
      exact ⟨_, _, c, rfl, ⟨rfl, ep⟩, h8, hc⟩
    · have hu : pPa K U k = .inr (k + 1, U k) := by unfold pPa; rw [if_pos q8, if_neg q0]
      rw [hu] at hQ
      have n0 : ¬ nI (U k) = 0 := fun q => q0 ((nI_e0 (by omega)).mp q)
      refine wp_sound (by rw [hi]; exact ok_X5_readPart) (hd := [20, 38, 53, 57]) 400 _ _ _ _ _ _ ?_
      simp (disch := omega) only [wp, stp, List.mem_cons, List.not_mem_nil, Nat.reduceEqDiff, or_false, or_self, false_or, or_true, true_or, Nat.reduceAdd, ↓reduceIte, List.getElem?_cons_zero, List.getElem?_cons_succ, nthV, List.set_cons_zero, List.set_cons_succ, noL, popA, catS, Value.category, List.length_cons, List.length_nil, Nat.reduceLT, Nat.reduceLeDiff, true_and, and_true, one0, zer1, imp_t, imp_f, ofN_nI, sdead, f20, f21, not_true_eq_false, upC_self, upC_ne, upC_upC, retC, fitC, isRefT, Option.toList_some, Option.toList_none, List.cons_append, List.nil_append, Nat.lt_add_one, Nat.zero_lt_succ, Nat.le_refl, Nat.add_zero, Nat.zero_add, Nat.one_ne_zero, Nat.zero_ne_one, Nat.lt_irrefl, List.length_set, fa_X5_readPart, hi, hd, hQ, mr_X5_readPart, h6, hck, ek, ev, rM_0, rM_1, rM_2, rM_3, rM_4, ru_0, ru_1, ru_2, ru_3, ru_4, rO_len, rg_0, rg_1, rg_2, rg_3, rg_4, rg_5, rg_6, rg_7, rg_8, rg_9, rg_10, rs_0, rs_1, rs_5, rs_6, rs_8, rs_9, rs_10]
      refine ⟨hin, fun _ => ⟨hin, fun _ => ⟨hin, by omega, _, t_addStep hG hrp h8 hc (a := 2) (by omega) (show U k < 65536 by omega), ?_⟩, fun h => absurd h n0⟩, fun h => absurd rfl h⟩
      rintro v n1 z1 f1 ⟨rfl, ⟨rfl, rfl⟩, h⟩
      rcases h with ⟨-, rfl⟩ | ⟨q, -⟩
      · refine wp_sound (by rw [hi]; exact ok_X5_readPart) (hd := [20, 38, 53, 57]) 400 _ _ _ _ _ _ ?_
        simp (disch := omega) only [wp, stp, List.mem_cons, List.not_mem_nil, Nat.reduceEqDiff, or_false, or_self, false_or, or_true, true_or, Nat.reduceAdd, ↓reduceIte, List.getElem?_cons_zero, List.getElem?_cons_succ, nthV, List.set_cons_zero, List.set_cons_succ, noL, popA, catS, Value.category, List.length_cons, List.length_nil, Nat.reduceLT, Nat.reduceLeDiff, true_and, and_true, one0, zer1, imp_t, imp_f, ofN_nI, sdead, f20, f21, not_true_eq_false, upC_self, upC_ne, upC_upC, retC, fitC, isRefT, Option.toList_some, Option.toList_none, List.cons_append, List.nil_append, Nat.lt_add_one, Nat.zero_lt_succ, Nat.le_refl, Nat.add_zero, Nat.zero_add, Nat.one_ne_zero, Nat.zero_ne_one, Nat.lt_irrefl, List.length_set, fa_X5_readPart, hi, hd, hQ, mr_X5_readPart, rM_0, rM_1, rM_2, rM_3, rM_4, ru_0, ru_1, ru_2, ru_3, ru_4, rO_len, rg_0, rg_1, rg_2, rg_3, rg_4, rg_5, rg_6, rg_7, rg_8, rg_9, rg_10, rs_0, rs_1, rs_5, rs_6, rs_8, rs_9, rs_10]
        refine ⟨by omega, _, t_goOn (c := c + 1) (k := k) hG hrp ⟨⟨h5, h6, upd_self⟩, ⟨hk, by omega⟩, h10⟩ hT4 hkT, ?_⟩
        rintro v n2 z2 f2 ⟨rfl, rfl, rfl, rfl⟩
        refine wp_sound (by rw [hi]; exact ok_X5_readPart) (hd := [20, 38, 53, 57]) 400 _ _ _ _ _ _ ?_
        simp (disch := omega) only [wp, stp, List.mem_cons, List.not_mem_nil, Nat.reduceEqDiff, or_false, or_self, false_or, or_true, true_or, Nat.reduceAdd, ↓reduceIte, List.getElem?_cons_zero, List.getElem?_cons_succ, nthV, List.set_cons_zero, List.set_cons_succ, noL, popA, catS, Value.category, List.length_cons, List.length_nil, Nat.reduceLT, Nat.reduceLeDiff, true_and, and_true, one0, zer1, imp_t, imp_f, ofN_nI, sdead, f20, f21, not_true_eq_false, upC_self, upC_ne, upC_upC, retC, fitC, isRefT, Option.toList_some, Option.toList_none, List.cons_append, List.nil_append, Nat.lt_add_one, Nat.zero_lt_succ, Nat.le_refl, Nat.add_zero, Nat.zero_add, Nat.one_ne_zero, Nat.zero_ne_one, Nat.lt_irrefl, List.length_set, fa_X5_readPart, hi, hd, hQ, mr_X5_readPart, RdP, rM_0, rM_1, rM_2, rM_3, rM_4, ru_0, ru_1, ru_2, ru_3, ru_4, rO_len, rg_0, rg_1, rg_2, rg_3, rg_4, rg_5, rg_6, rg_7, rg_8, rg_9, rg_10, rs_0, rs_1, rs_5, rs_6, rs_8, rs_9, rs_10]
        exact ⟨_, _, c + 1, rfl, fun j a1 a2 a3 => by rw [upd_ap, if_neg a1, upd_ap, if_neg a2], ⟨rfl, rfl, by rw [aeU_f (evR.one (by omega))]; rfl⟩, fun i hi' => upd_lt hi', rfl, ⟨by omega, q0⟩, upd_self⟩
      · omega
  · have hu : pPa K U k = .inl (1, k) := by unfold pPa; rw [if_neg q8]
    rw [hu] at hQ
    have n1 : ¬ nI (K k) = (258 : Int32) := fun q => q8 ((nI_eq (b := 258) (by omega) (by omega)).mp q)
    refine wp_sound (by rw [hi]; exact ok_X5_readPart) (hd := [20, 38, 53, 57]) 400 _ _ _ _ _ _ ?_
    simp (disch := omega) only [wp, stp, List.mem_cons, List.not_mem_nil, Nat.reduceEqDiff, or_false, or_self, false_or, or_true, true_or, Nat.reduceAdd, ↓reduceIte, List.getElem?_cons_zero, List.getElem?_cons_succ, nthV, List.set_cons_zero, List.set_cons_succ, noL, popA, catS, Value.category, List.length_cons, List.length_nil, Nat.reduceLT, Nat.reduceLeDiff, true_and, and_true, one0, zer1, imp_t, imp_f, ofN_nI, sdead, f20, f21, not_true_eq_false, upC_self, upC_ne, upC_upC, retC, fitC, isRefT, Option.toList_some, Option.toList_none, List.cons_append, List.nil_append, Nat.lt_add_one, Nat.zero_lt_succ, Nat.le_refl, Nat.add_zero, Nat.zero_add, Nat.one_ne_zero, Nat.zero_ne_one, Nat.lt_irrefl, List.length_set, fa_X5_readPart, hi, hd, hQ, mr_X5_readPart, h6, hck, ek, rM_0, rM_1, rM_2, rM_3, rM_4, ru_0, ru_1, ru_2, ru_3, ru_4, rO_len, rg_0, rg_1, rg_2, rg_3, rg_4, rg_5, rg_6, rg_7, rg_8, rg_9, rg_10, rs_0, rs_1, rs_5, rs_6, rs_8, rs_9, rs_10]
    refine ⟨hin, fun h => absurd h n1, fun _ => ⟨by omega, _, t_refuse hG hrp h6 (by omega) 1, ?_⟩⟩
    rintro v n1 z1 f1 ⟨rfl, rfl, rfl, rfl⟩
    refine wp_sound (by rw [hi]; exact ok_X5_readPart) (hd := [20, 38, 53, 57]) 400 _ _ _ _ _ _ ?_
    simp (disch := omega) only [wp, stp, List.mem_cons, List.not_mem_nil, Nat.reduceEqDiff, or_false, or_self, false_or, or_true, true_or, Nat.reduceAdd, ↓reduceIte, List.getElem?_cons_zero, List.getElem?_cons_succ, nthV, List.set_cons_zero, List.set_cons_succ, noL, popA, catS, Value.category, List.length_cons, List.length_nil, Nat.reduceLT, Nat.reduceLeDiff, true_and, and_true, one0, zer1, imp_t, imp_f, ofN_nI, sdead, f20, f21, not_true_eq_false, upC_self, upC_ne, upC_upC, retC, fitC, isRefT, Option.toList_some, Option.toList_none, List.cons_append, List.nil_append, Nat.lt_add_one, Nat.zero_lt_succ, Nat.le_refl, Nat.add_zero, Nat.zero_add, Nat.one_ne_zero, Nat.zero_ne_one, Nat.lt_irrefl, List.length_set, fa_X5_readPart, hi, hd, hQ, mr_X5_readPart, RdP, rM_0, rM_1, rM_2, rM_3, rM_4, ru_0, ru_1, ru_2, ru_3, ru_4, rO_len, rg_0, rg_1, rg_2, rg_3, rg_4, rg_5, rg_6, rg_7, rg_8, rg_9, rg_10, rs_0, rs_1, rs_5, rs_6, rs_8, rs_9, rs_10]
    exact ⟨_, _, c, rfl, ⟨rfl, ep⟩, h8, hc⟩
end Rd1
