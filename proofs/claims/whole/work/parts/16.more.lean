-- small helpers for the walks
theorem Tr.of2 {G : Gam} (hG : Ok G) {d i n z : Nat} {f : Mf} {av ls0 : List Value} {Q : Po} (hM : Mok i) (hlen : (entL av).length ≤ mL i) (hls : entL av ++ List.replicate (mL i - (entL av).length) dead = ls0)
    (h : ∀ X : Fx, X.i = i → X.d = d → X.n = n → X.z = z → X.f = f → X.Q = Q → V G X 0 ls0 [] n z f) : Tr G d i av n z f Q := by
  subst hls
  exact Tr.of hG hM hlen (h _ rfl rfl rfl rfl rfl rfl)
theorem new0_0 : new0 0 = [.int 0, .int 0, .int 0, .null, .int 0, .null, .null, .null, .null, .null, .null, .int 0, .null, .int 0, .int 0, .int 0, .int 0, .int 0, .null] := rfl
-- numbers: nI k for a small k
theorem fa_lit (n : Nat) : (OfNat.ofNat n : Int32) = nI n := rfl
theorem vin_nI {i N : Nat} (h : i < 2147483648) : vp_in (nI i) N ↔ i < N := by
  unfold vp_in
  have h1 : ¬ nI i < 0 := nI_pos h
  have h2 : (nI i).toNatClampNeg = i := nI_clamp h
  rw [h2]
  constructor
  · intro q; exact Nat.not_le.mp fun z => q (Or.inr z)
  · intro q z
    rcases z with z | z
    · exact h1 z
    · omega
theorem nI_lt0 {a : Nat} (h : a < 2147483648) : nI a < 0 ↔ False := iff_false_intro (nI_pos h)
theorem nI_le0 {a : Nat} (h : a < 2147483648) : nI a ≤ 0 ↔ a = 0 := by
  rw [show (0 : Int32) = nI 0 from rfl, nI_leI h (by omega)]
  omega
theorem nI_0le {a : Nat} (h : a < 2147483648) : 0 ≤ nI a ↔ True := iff_true_intro (nI_pos' h)
theorem nI_0lt {a : Nat} (h : a < 2147483648) : 0 < nI a ↔ 0 < a := by
  rw [show (0 : Int32) = nI 0 from rfl, nI_ltI (by omega) h]
theorem nI_e0 {a : Nat} (h : a < 2147483648) : nI a = 0 ↔ a = 0 := by
  rw [show (0 : Int32) = nI 0 from rfl, nI_eq h (by omega)]
theorem nI_em {a : Nat} (h : a < 2147483648) : nI a = -1 ↔ False := by
  refine iff_false_intro fun q => ?_
  have h1 := nI_toInt h
  rw [q] at h1
  have : (-1 : Int32).toInt = -1 := rfl
  omega
theorem nI_me {a : Nat} (h : a < 2147483648) : -1 = nI a ↔ False := by rw [eq_comm]; exact nI_em h
def bI (p : Prop) [Decidable p] : Int32 := if p then 1 else 0
theorem bI_t {p : Prop} [Decidable p] (h : p) : bI p = 1 := if_pos h
theorem bI_f {p : Prop} [Decidable p] (h : ¬ p) : bI p = 0 := if_neg h
theorem bI_0 {p : Prop} [Decidable p] : bI p = 0 ↔ ¬ p := by
  by_cases h : p
  · rw [bI_t h]; exact ⟨fun q => absurd q (by decide), fun q => absurd h q⟩
  · rw [bI_f h]; exact ⟨fun _ => h, fun _ => rfl⟩
theorem bI_1 {p : Prop} [Decidable p] : bI p = 1 ↔ p := by
  by_cases h : p
  · rw [bI_t h]; exact ⟨fun _ => h, fun _ => rfl⟩
  · rw [bI_f h]; exact ⟨fun q => absurd q (by decide), fun q => absurd q h⟩
theorem bI_01 {p : Prop} [Decidable p] : bI p = 0 ∨ bI p = 1 := by
  by_cases h : p
  · exact Or.inr (bI_t h)
  · exact Or.inl (bI_f h)
theorem bI_c {p q : Prop} [Decidable p] [Decidable q] (h : p ↔ q) : bI p = bI q := by
  by_cases hp : p
  · rw [bI_t hp, bI_t (h.mp hp)]
  · rw [bI_f hp, bI_f (fun z => hp (h.mpr z))]
abbrev Same (r : Value) (n z : Nat) (f : Mf) : Po := fun v n' z' f' => v = some r ∧ n' = n ∧ z' = z ∧ f' = f
theorem Same.i {x y : Int32} {n z : Nat} {f : Mf} (h : x = y) : Same (.int y) n z f (some (.int x)) n z f := ⟨by rw [h], rfl, rfl, rfl⟩
theorem upC_ap (f : Mf) (k : Nat) (c : Cel) (j : Nat) : upC f k c j = if j = k then c else f j := rfl
def upS (S : Nat → Nat → Int32) (j i : Nat) (v : Int32) : Nat → Nat → Int32 := fun a b => if a = j ∧ b = i then v else S a b
theorem upS_ap (S : Nat → Nat → Int32) (j i : Nat) (v : Int32) (a b : Nat) : upS S j i v a b = if a = j ∧ b = i then v else S a b := rfl
def Off (A : Nat → Prop) (f f' : Mf) : Prop := ∀ k, ¬ A k → f' k = f k
theorem Off.refl (A : Nat → Prop) (f : Mf) : Off A f f := fun _ _ => rfl
theorem Off.trans {A : Nat → Prop} {f g h : Mf} (h1 : Off A f g) (h2 : Off A g h) : Off A f h := fun k hk => (h2 k hk).trans (h1 k hk)
theorem Off.up {A : Nat → Prop} {f g : Mf} {k : Nat} {c : Cel} (h : Off A f g) (hk : A k) : Off A f (upC g k c) := fun j hj => by
  rw [upC_ne g c (fun e => hj (by rw [e]; exact hk))]; exact h j hj
theorem Off.weaken {A B : Nat → Prop} {f g : Mf} (h : Off A f g) (hAB : ∀ k, A k → B k) : Off B f g := fun k hk => h k (fun q => hk (hAB k q))
theorem one0 : ((1 : Int32) = 0) = False := eq_false (by decide)
theorem zer1 : ((0 : Int32) = 1) = False := eq_false (by decide)
theorem imp_t {p : Prop} : (¬ False → p) = p := propext ⟨fun h => h id, fun h _ => h⟩
theorem imp_f {p : Prop} : (False → p) = True := eq_true (fun h => h.elim)
theorem upC_upC (f : Mf) (k : Nat) (a b : Cel) : upC (upC f k a) k b = upC f k b := by
  funext j
  by_cases h : j = k <;> simp [upC, h]
theorem upC_comm (f : Mf) {i j : Nat} (h : i ≠ j) (a b : Cel) : upC (upC f i a) j b = upC (upC f j b) i a := by
  funext k
  by_cases h1 : k = i
  · subst h1; simp [upC, h]
  · by_cases h2 : k = j
    · subst h2; simp [upC, h1]
    · simp [upC, h1, h2]
theorem upC_id (f : Mf) {k : Nat} {c : Cel} (h : f k = c) : upC f k c = f := by
  funext j
  by_cases e : j = k
  · subst e; rw [upC_self, h]
  · rw [upC_ne f c e]
theorem nI_p1 {a : Nat} (h : 0 < a) : nI a + -1 = nI (a - 1) := sb_m1 h
theorem nI_p0 : nI 0 + -1 = -1 := rfl
theorem m1_lt0 : ((-1 : Int32) < 0) = True := eq_true (by decide)
theorem i8_m1 : (-1 : Int32).toInt8.toInt32 = -1 := rfl
theorem i8_nI {a : Nat} (h : a < 128) : (nI a).toInt8.toInt32 = nI a := by
  have : ∀ k : Fin 128, (nI k.val).toInt8.toInt32 = nI k.val := by decide +kernel
  exact this ⟨a, h⟩
theorem ofN_nI (n : Nat) : Int32.ofNat n = nI n := rfl
def M1 : Int32 := -1
theorem m1f : (-1 : Int32) = M1 := rfl
theorem m1u : M1 = (-1 : Int32) := rfl
theorem nI_eM {a : Nat} (h : a < 2147483648) : nI a = M1 ↔ False := nI_em h
theorem nI_Me {a : Nat} (h : a < 2147483648) : M1 = nI a ↔ False := nI_me h
theorem nI_pM {a : Nat} (h : 0 < a) : nI a + M1 = nI (a - 1) := sb_m1 h
theorem nI_pM0 : nI 0 + M1 = M1 := rfl
theorem M1_lt {a : Nat} (h : a < 2147483648) : M1 < nI a ↔ True := by
  refine iff_true_intro ?_
  rw [Int32.lt_iff_toInt_lt, nI_toInt h]
  have : M1.toInt = -1 := rfl
  omega
theorem M1_le {a : Nat} (h : a < 2147483648) : M1 ≤ nI a ↔ True := by
  refine iff_true_intro ?_
  rw [Int32.le_iff_toInt_le, nI_toInt h]
  have : M1.toInt = -1 := rfl
  omega
theorem nI_ltM {a : Nat} (h : a < 2147483648) : nI a < M1 ↔ False := by
  refine iff_false_intro fun q => ?_
  rw [Int32.lt_iff_toInt_lt, nI_toInt h] at q
  have : M1.toInt = -1 := rfl
  omega
theorem nI_leM {a : Nat} (h : a < 2147483648) : nI a ≤ M1 ↔ False := by
  refine iff_false_intro fun q => ?_
  rw [Int32.le_iff_toInt_le, nI_toInt h] at q
  have : M1.toInt = -1 := rfl
  omega
theorem nI_rm2 {a n : Nat} (ha : a < 2147483648) (h0 : 0 < n) (hn : n < 2147483648) : nI a - nI (a / n) * nI n = nI (a % n) := by
  have h1 := pk_rem ha h0 hn
  rw [pk_div ha h0 hn] at h1
  exact h1
theorem nI_rm3 {a n : Nat} (ha : a < 2147483648) (h0 : 0 < n) (hn : n < 2147483648) : nI a - nI (a / n * n) = nI (a % n) := by
  rw [← pk_mul]; exact nI_rm2 ha h0 hn
theorem nI_pMz {a : Nat} (h : a = 0) : nI a + M1 = M1 := by subst h; rfl
theorem cl0 : (nI 0).toNatClampNeg = 0 := rfl
theorem cl1 : (nI 1).toNatClampNeg = 1 := rfl
theorem cl2 : (nI 2).toNatClampNeg = 2 := rfl
theorem cl3 : (nI 3).toNatClampNeg = 3 := rfl
theorem z00 : ((0 : Int32) = 0) = True := eq_self 0
