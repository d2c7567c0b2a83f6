-- small helpers for the walks
theorem Tr.of2 {G : Gam} (hG : Ok G) {d i n z : Nat} {f : Mf} {av ls0 : List Value} {Q : Po} (hM : Mok i) (hlen : (entL av).length ≤ mL i) (hls : entL av ++ List.replicate (mL i - (entL av).length) dead = ls0)
    (h : ∀ X : Fx, X.i = i → X.d = d → X.n = n → X.z = z → X.f = f → X.Q = Q → V G X 0 ls0 [] n z f) : Tr G d i av n z f Q := by
  subst hls
  exact Tr.of hG hM hlen (h _ rfl rfl rfl rfl rfl rfl)
theorem new0_0 : new0 0 = [.int 0, .int 0, .int 0, .null, .int 0, .null, .null, .null, .null, .null, .null, .int 0, .null, .int 0, .int 0, .int 0, .int 0, .int 0, .null] := rfl
