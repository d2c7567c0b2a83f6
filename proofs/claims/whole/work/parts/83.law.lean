-- each call of the class beside the same call of the reference
set_option maxRecDepth 100000
set_option maxHeartbeats 4000000
/-- how a call of the class ends, and what the same call of the reference does then -/
def PQ (G : Gam) (d i9 : Nat) (av : List Value) (S : Sta) (L : Lw) (tb : Nat → Nat) (tl : Nat) (fk fp : Int32) (kp : Option (Sta × Lw)) (i : Nat) (f : Mf) : Po := fun v n' z' f' => ∃ S' L' tb' tl' fk' fp' kp' ans, v = some (.int ans) ∧ XW S' L' tb' tl' fk' fp' kp' (i + 1) f' n' z' ∧ RFX f f' ∧ ∀ I W A s, RM S L tb tl fk fp kp I W A s → Tr G d i9 (.ref 31 :: av) n' z' (mM f' I W A s) (RX S' L' tb' tl' fk' fp' kp' n' z' f' ans)
section Prs
variable {G : Gam} {d n z tl i : Nat} {f : Mf} {S : Sta} {L : Lw} {tb : Nat → Nat} {fk fp : Int32} {kp : Option (Sta × Lw)}
theorem szX.up {N Z K N' Z' K' : Nat} (h : szX N Z K i) (h1 : N' ≤ N + 12) (h2 : Z' ≤ Z + 4000) (h3 : K' ≤ K + 2) : szX N' Z' K' (i + 1) := by
  obtain ⟨a, b, c⟩ := h
  exact ⟨by omega, by omega, by omega⟩
theorem pr_state (hG : Ok G) (hd1 : 41 ≤ d) (hi5 : i < 512) (hX : XW S L tb tl fk fp kp i f n z) (v : Int32) : Tr G d 89 [.ref 0, .int v] n z f (PQ G d 133 [.int v] S L tb tl fk fp kp i f) := by
  obtain ⟨lp, N, Z, K, ro, to, ko, hz, h⟩ := hX
  have hCAP : CAP = 600000 := rfl
  have hSCAP : SCAP = 7302249 := rfl
  have hzz := id hz
  obtain ⟨sz1, sz2, sz3⟩ := hzz
  refine (t8_state hG  h v).post (fun r n' z' f' hq => ?_)
  obtain ⟨hv, hM, hF⟩ := hq
  exact ⟨_, _, _, _, _, _, _, _, hv, ⟨_, _, _, _, _, _, _, hz.up (by omega) (by omega) (by omega), hM⟩, hF, fun I W A s hR => t9_state hG  hR v⟩
theorem pr_tent (hG : Ok G) (hd1 : 41 ≤ d) (hi5 : i < 512) (hX : XW S L tb tl fk fp kp i f n z) (y fm md : Int32) : Tr G d 92 [.ref 0, .int y, .int fm, .int md] n z f (PQ G d 140 [.int y, .int fm, .int md] S L tb tl fk fp kp i f) := by
  obtain ⟨lp, N, Z, K, ro, to, ko, hz, h⟩ := hX
  have hCAP : CAP = 600000 := rfl
  have hSCAP : SCAP = 7302249 := rfl
  have hzz := id hz
  obtain ⟨sz1, sz2, sz3⟩ := hzz
  refine (t8_tent hG (by omega) h y fm md).post (fun r n' z' f' hq => ?_)
  obtain ⟨hv, hM, hF⟩ := hq
  exact ⟨_, _, _, _, _, _, _, _, hv, ⟨_, _, _, _, _, _, _, hz.up (by omega) (by omega) (by omega), hM⟩, hF, fun I W A s hR => t9_tent hG (by omega) hR h.1.1 y fm md⟩
theorem pr_man (hG : Ok G) (hd1 : 41 ≤ d) (hi5 : i < 512) (hX : XW S L tb tl fk fp kp i f n z) (y : Int32) : Tr G d 93 [.ref 0, .int y] n z f (PQ G d 142 [.int y] S L tb tl fk fp kp i f) := by
  obtain ⟨lp, N, Z, K, ro, to, ko, hz, h⟩ := hX
  have hCAP : CAP = 600000 := rfl
  have hSCAP : SCAP = 7302249 := rfl
  have hzz := id hz
  obtain ⟨sz1, sz2, sz3⟩ := hzz
  refine (t8_man hG (by omega) h y).post (fun r n' z' f' hq => ?_)
  obtain ⟨hv, hM, hF⟩ := hq
  exact ⟨_, _, _, _, _, _, _, _, hv, ⟨_, _, _, _, _, _, _, hz.up (by omega) (by omega) (by omega), hM⟩, hF, fun I W A s hR => t9_man hG (by omega) hR h.1.1 y⟩
theorem pr_stranger (hG : Ok G) (hd1 : 41 ≤ d) (hi5 : i < 512) (hX : XW S L tb tl fk fp kp i f n z) (y : Int32) : Tr G d 94 [.ref 0, .int y] n z f (PQ G d 143 [.int y] S L tb tl fk fp kp i f) := by
  obtain ⟨lp, N, Z, K, ro, to, ko, hz, h⟩ := hX
  have hCAP : CAP = 600000 := rfl
  have hSCAP : SCAP = 7302249 := rfl
  have hzz := id hz
  obtain ⟨sz1, sz2, sz3⟩ := hzz
  refine (t8_stranger hG (by omega) h y).post (fun r n' z' f' hq => ?_)
  obtain ⟨hv, hM, hF⟩ := hq
  exact ⟨_, _, _, _, _, _, _, _, hv, ⟨_, _, _, _, _, _, _, hz.up (by omega) (by omega) (by omega), hM⟩, hF, fun I W A s hR => t9_stranger hG (by omega) hR h.1.1 y⟩
theorem pr_set (hG : Ok G) (hd1 : 41 ≤ d) (hi5 : i < 512) (hX : XW S L tb tl fk fp kp i f n z) (w t v : Int32) : Tr G d 95 [.ref 0, .int w, .int t, .int v] n z f (PQ G d 145 [.int w, .int t, .int v] S L tb tl fk fp kp i f) := by
  obtain ⟨lp, N, Z, K, ro, to, ko, hz, h⟩ := hX
  have hCAP : CAP = 600000 := rfl
  have hSCAP : SCAP = 7302249 := rfl
  have hzz := id hz
  obtain ⟨sz1, sz2, sz3⟩ := hzz
  refine (t8_set hG (by omega) h w t v).post (fun r n' z' f' hq => ?_)
  obtain ⟨hv, hM, hF⟩ := hq
  exact ⟨_, _, _, _, _, _, _, _, hv, ⟨_, _, _, _, _, _, _, hz.up (by omega) (by omega) (by omega), hM⟩, hF, fun I W A s hR => t9_set hG (by omega) hR h.1.1 w t v⟩
theorem pr_fault (hG : Ok G) (hd1 : 41 ≤ d) (hi5 : i < 512) (hX : XW S L tb tl fk fp kp i f n z) (w : Int32) : Tr G d 99 [.ref 0, .int w] n z f (PQ G d 167 [.int w] S L tb tl fk fp kp i f) := by
  obtain ⟨lp, N, Z, K, ro, to, ko, hz, h⟩ := hX
  have hCAP : CAP = 600000 := rfl
  have hSCAP : SCAP = 7302249 := rfl
  have hzz := id hz
  obtain ⟨sz1, sz2, sz3⟩ := hzz
  refine (t8_fault hG  h w).post (fun r n' z' f' hq => ?_)
  obtain ⟨hv, hM, hF⟩ := hq
  exact ⟨_, _, _, _, _, _, _, _, hv, ⟨_, _, _, _, _, _, _, hz.up (by omega) (by omega) (by omega), hM⟩, hF, fun I W A s hR => t9_fault hG  hR w⟩
theorem pr_evenings (hG : Ok G) (hd1 : 41 ≤ d) (hi5 : i < 512) (hX : XW S L tb tl fk fp kp i f n z) (v : Int32) : Tr G d 100 [.ref 0, .int v] n z f (PQ G d 189 [.int v] S L tb tl fk fp kp i f) := by
  obtain ⟨lp, N, Z, K, ro, to, ko, hz, h⟩ := hX
  have hCAP : CAP = 600000 := rfl
  have hSCAP : SCAP = 7302249 := rfl
  have hzz := id hz
  obtain ⟨sz1, sz2, sz3⟩ := hzz
  refine (t8_evenings hG (by omega) h v).post (fun r n' z' f' hq => ?_)
  obtain ⟨hv, hM, hF⟩ := hq
  exact ⟨_, _, _, _, _, _, _, _, hv, ⟨_, _, _, _, _, _, _, hz.up (by omega) (by omega) (by omega), hM⟩, hF, fun I W A s hR => t9_evenings hG (by omega) hR v⟩
theorem pr_of (hG : Ok G) (hd1 : 41 ≤ d) (hi5 : i < 512) (hX : XW S L tb tl fk fp kp i f n z) (t w : Int32) : Tr G d 101 [.ref 0, .int t, .int w] n z f (PQ G d 190 [.int t, .int w] S L tb tl fk fp kp i f) := by
  obtain ⟨lp, N, Z, K, ro, to, ko, hz, h⟩ := hX
  have hCAP : CAP = 600000 := rfl
  have hSCAP : SCAP = 7302249 := rfl
  have hzz := id hz
  obtain ⟨sz1, sz2, sz3⟩ := hzz
  refine (t8_of hG (by omega) h t w).post (fun r n' z' f' hq => ?_)
  obtain ⟨hv, hM, hF⟩ := hq
  exact ⟨_, _, _, _, _, _, _, _, hv, ⟨_, _, _, _, _, _, _, hz.up (by omega) (by omega) (by omega), hM⟩, hF, fun I W A s hR => t9_of hG (by omega) hR t w⟩
theorem pr_rest (hG : Ok G) (hd1 : 41 ≤ d) (hi5 : i < 512) (hX : XW S L tb tl fk fp kp i f n z) (w : Int32) : Tr G d 104 [.ref 0, .int w] n z f (PQ G d 193 [.int w] S L tb tl fk fp kp i f) := by
  obtain ⟨lp, N, Z, K, ro, to, ko, hz, h⟩ := hX
  have hCAP : CAP = 600000 := rfl
  have hSCAP : SCAP = 7302249 := rfl
  have hzz := id hz
  obtain ⟨sz1, sz2, sz3⟩ := hzz
  refine (t8_rest hG (by omega) h w).post (fun r n' z' f' hq => ?_)
  obtain ⟨hv, hM, hF⟩ := hq
  exact ⟨_, _, _, _, _, _, _, _, hv, ⟨_, _, _, _, _, _, _, hz.up (by omega) (by omega) (by omega), hM⟩, hF, fun I W A s hR => t9_rest hG (by omega) hR w⟩
theorem pr_saves (hG : Ok G) (hd1 : 41 ≤ d) (hi5 : i < 512) (hX : XW S L tb tl fk fp kp i f n z) (w : Int32) : Tr G d 106 [.ref 0, .int w] n z f (PQ G d 200 [.int w] S L tb tl fk fp kp i f) := by
  obtain ⟨lp, N, Z, K, ro, to, ko, hz, h⟩ := hX
  have hCAP : CAP = 600000 := rfl
  have hSCAP : SCAP = 7302249 := rfl
  have hzz := id hz
  obtain ⟨sz1, sz2, sz3⟩ := hzz
  refine (t8_saves hG (by omega) h w).post (fun r n' z' f' hq => ?_)
  obtain ⟨hv, hM, hF⟩ := hq
  exact ⟨_, _, _, _, _, _, _, _, hv, ⟨_, _, _, _, _, _, _, hz.up (by omega) (by omega) (by omega), hM⟩, hF, fun I W A s hR => t9_saves hG (by omega) hR h.1.1 w⟩
theorem pr_rid (hG : Ok G) (hd1 : 41 ≤ d) (hi5 : i < 512) (hX : XW S L tb tl fk fp kp i f n z) (a b : Int32) : Tr G d 108 [.ref 0, .int a, .int b] n z f (PQ G d 202 [.int a, .int b] S L tb tl fk fp kp i f) := by
  obtain ⟨lp, N, Z, K, ro, to, ko, hz, h⟩ := hX
  have hCAP : CAP = 600000 := rfl
  have hSCAP : SCAP = 7302249 := rfl
  have hzz := id hz
  obtain ⟨sz1, sz2, sz3⟩ := hzz
  refine (t8_rid hG (by omega) h a b).post (fun r n' z' f' hq => ?_)
  obtain ⟨hv, hM, hF⟩ := hq
  exact ⟨_, _, _, _, _, _, _, _, hv, ⟨_, _, _, _, _, _, _, hz.up (by omega) (by omega) (by omega), hM⟩, hF, fun I W A s hR => t9_rid hG (by omega) hR a b⟩
theorem pr_send (hG : Ok G) (hd1 : 41 ≤ d) (hi5 : i < 512) (hX : XW S L tb tl fk fp kp i f n z) (t w : Int32) : Tr G d 109 [.ref 0, .int t, .int w] n z f (PQ G d 204 [.int t, .int w] S L tb tl fk fp kp i f) := by
  obtain ⟨lp, N, Z, K, ro, to, ko, hz, h⟩ := hX
  have hCAP : CAP = 600000 := rfl
  have hSCAP : SCAP = 7302249 := rfl
  have hzz := id hz
  obtain ⟨sz1, sz2, sz3⟩ := hzz
  refine (t8_send hG (by omega) h t w).post (fun r n' z' f' hq => ?_)
  obtain ⟨hv, hM, hF⟩ := hq
  exact ⟨_, _, _, _, _, _, _, _, hv, ⟨_, _, _, _, _, _, _, hz.up (by omega) (by omega) (by omega), hM⟩, hF, fun I W A s hR => t9_send hG (by omega) hR t w⟩
theorem pr_broken (hG : Ok G) (hd1 : 41 ≤ d) (hi5 : i < 512) (hX : XW S L tb tl fk fp kp i f n z) (t : Int32) : Tr G d 110 [.ref 0, .int t] n z f (PQ G d 206 [.int t] S L tb tl fk fp kp i f) := by
  obtain ⟨lp, N, Z, K, ro, to, ko, hz, h⟩ := hX
  have hCAP : CAP = 600000 := rfl
  have hSCAP : SCAP = 7302249 := rfl
  have hzz := id hz
  obtain ⟨sz1, sz2, sz3⟩ := hzz
  refine (t8_broken hG (by omega) h t).post (fun r n' z' f' hq => ?_)
  obtain ⟨hv, hM, hF⟩ := hq
  exact ⟨_, _, _, _, _, _, _, _, hv, ⟨_, _, _, _, _, _, _, hz.up (by omega) (by omega) (by omega), hM⟩, hF, fun I W A s hR => t9_broken hG (by omega) hR t⟩
theorem pr_told (hG : Ok G) (hd1 : 41 ≤ d) (hi5 : i < 512) (hX : XW S L tb tl fk fp kp i f n z) (t v : Int32) : Tr G d 111 [.ref 0, .int t, .int v] n z f (PQ G d 207 [.int t, .int v] S L tb tl fk fp kp i f) := by
  obtain ⟨lp, N, Z, K, ro, to, ko, hz, h⟩ := hX
  have hCAP : CAP = 600000 := rfl
  have hSCAP : SCAP = 7302249 := rfl
  have hzz := id hz
  obtain ⟨sz1, sz2, sz3⟩ := hzz
  refine (t8_told hG (by omega) h t v).post (fun r n' z' f' hq => ?_)
  obtain ⟨hv, hM, hF⟩ := hq
  exact ⟨_, _, _, _, _, _, _, _, hv, ⟨_, _, _, _, _, _, _, hz.up (by omega) (by omega) (by omega), hM⟩, hF, fun I W A s hR => t9_told hG (by omega) hR t v⟩
theorem pr_night (hG : Ok G) (hd1 : 41 ≤ d) (hi5 : i < 512) (hX : XW S L tb tl fk fp kp i f n z) (w : Int32) : Tr G d 112 [.ref 0, .int w] n z f (PQ G d 209 [.int w] S L tb tl fk fp kp i f) := by
  obtain ⟨lp, N, Z, K, ro, to, ko, hz, h⟩ := hX
  have hCAP : CAP = 600000 := rfl
  have hSCAP : SCAP = 7302249 := rfl
  have hzz := id hz
  obtain ⟨sz1, sz2, sz3⟩ := hzz
  refine (t8_night hG (by omega) h w).post (fun r n' z' f' hq => ?_)
  obtain ⟨hv, hM, hF⟩ := hq
  exact ⟨_, _, _, _, _, _, _, _, hv, ⟨_, _, _, _, _, _, _, hz.up (by omega) (by omega) (by omega), hM⟩, hF, fun I W A s hR => t9_night hG (by omega) hR w⟩
theorem pr_end (hG : Ok G) (hd1 : 41 ≤ d) (hi5 : i < 512) (hX : XW S L tb tl fk fp kp i f n z) (v : Int32) : Tr G d 97 [.ref 0, .int v] n z f (PQ G d 147 [.int v] S L tb tl fk fp kp i f) := by
  obtain ⟨lp, N, Z, K, ro, to, ko, hz, h⟩ := hX
  have hCAP : CAP = 600000 := rfl
  have hSCAP : SCAP = 7302249 := rfl
  have hzz := id hz
  obtain ⟨sz1, sz2, sz3⟩ := hzz
  refine (t8_end hG h v).post (fun r n' z' f' hq => ?_)
  obtain ⟨hv, hM, hF⟩ := hq
  exact ⟨_, _, _, _, _, _, _, _, hv, ⟨_, _, _, _, _, _, _, hz.up (by omega) (by omega) (by omega), hM⟩, hF, fun I W A s hR => t9_end hG (by omega) hR _⟩
theorem pr_look (hG : Ok G) (hd1 : 41 ≤ d) (hi5 : i < 512) (hX : XW S L tb tl fk fp kp i f n z) (w : Int32) : Tr G d 114 [.ref 0, .int w] n z f (PQ G d 211 [.int w] S L tb tl fk fp kp i f) := by
  obtain ⟨lp, N, Z, K, ro, to, ko, hz, h⟩ := hX
  have hCAP : CAP = 600000 := rfl
  have hSCAP : SCAP = 7302249 := rfl
  have hzz := id hz
  obtain ⟨sz1, sz2, sz3⟩ := hzz
  refine (t8_look hG (by omega) h w).post (fun r n' z' f' hq => ?_)
  obtain ⟨rfl, rfl, rfl, rfl⟩ := hq
  exact ⟨_, _, _, _, _, _, _, _, rfl, ⟨_, _, _, _, _, _, _, hz.up (by omega) (by omega) (by omega), h⟩, RFX.refl _, fun I W A s hR => t9_look hG (by omega) hR w⟩
theorem pr_at (hG : Ok G) (hd1 : 41 ≤ d) (hi5 : i < 512) (hX : XW S L tb tl fk fp kp i f n z) (y w : Int32) : Tr G d 103 [.ref 0, .int y, .int w] n z f (PQ G d 191 [.int y, .int w] S L tb tl fk fp kp i f) := by
  obtain ⟨lp, N, Z, K, ro, to, ko, hz, h⟩ := hX
  have hCAP : CAP = 600000 := rfl
  have hSCAP : SCAP = 7302249 := rfl
  have hzz := id hz
  obtain ⟨sz1, sz2, sz3⟩ := hzz
  refine (t8_at hG (by omega) h y w).post (fun r n' z' f' hq => ?_)
  obtain ⟨rfl, rfl, rfl, rfl⟩ := hq
  exact ⟨_, _, _, _, _, _, _, _, rfl, ⟨_, _, _, _, _, _, _, hz.up (by omega) (by omega) (by omega), h⟩, RFX.refl _, fun I W A s hR => t9_at hG (by omega) hR y w⟩
theorem pr_way (hG : Ok G) (hd1 : 41 ≤ d) (hi5 : i < 512) (hX : XW S L tb tl fk fp kp i f n z) (a b : Int32) : Tr G d 102 [.ref 0, .int a, .int b] n z f (PQ G d 174 [.int a, .int b] S L tb tl fk fp kp i f) := by
  obtain ⟨lp, N, Z, K, ro, to, ko, hz, h⟩ := hX
  have hCAP : CAP = 600000 := rfl
  have hSCAP : SCAP = 7302249 := rfl
  have hzz := id hz
  obtain ⟨sz1, sz2, sz3⟩ := hzz
  refine (t8_way hG (by omega) h a b).post (fun r n' z' f' hq => ?_)
  obtain ⟨hv, hM, hF⟩ := hq
  exact ⟨_, _, _, _, _, _, _, _, hv, ⟨_, _, _, _, _, _, _, hz.up (by omega) (by omega) (by omega), hM⟩, hF, fun I W A s hR => (t9_way hG (by omega) hR.1.1.1.1.1 hR.1.1.1.2.2.2.2.2.2 hR.1.2.1 hR.1.2.2.2.1 a b).post (fun _ _ _ _ hr => hr.rx hR)⟩
theorem pr_line (hG : Ok G) (hd1 : 41 ≤ d) (hi5 : i < 512) (hX : XW S L tb tl fk fp kp i f n z) : Tr G d 107 [.ref 0] n z f (PQ G d 201 [] S L tb tl fk fp kp i f) := by
  obtain ⟨lp, N, Z, K, ro, to, ko, hz, h⟩ := hX
  have hCAP : CAP = 600000 := rfl
  have hSCAP : SCAP = 7302249 := rfl
  have hzz := id hz
  obtain ⟨sz1, sz2, sz3⟩ := hzz
  refine (t8_line hG (by omega) h).post (fun r n' z' f' hq => ?_)
  obtain ⟨hv, hM, hF⟩ := hq
  exact ⟨_, _, _, _, _, _, _, _, hv, ⟨_, _, _, _, _, _, _, hz.up (by omega) (by omega) (by omega), hM⟩, hF, fun I W A s hR => (t9_line hG (by omega) rfl hR.1.1.1 hR.1.hb hR.1.2.2.1 hR.1.2.2.2.1).post (fun _ _ _ _ hr => hr.rx hR)⟩
theorem pr_yard (hG : Ok G) (hd1 : 41 ≤ d) (hi5 : i < 512) (hX : XW S L tb tl fk fp kp i f n z) (y k : Int32) : Tr G d 91 [.ref 0, .int y, .int k] n z f (PQ G d 138 [.int y, .int k] S L tb tl fk fp kp i f) := by
  obtain ⟨lp, N, Z, K, ro, to, ko, hz, h⟩ := hX
  have hCAP : CAP = 600000 := rfl
  have hSCAP : SCAP = 7302249 := rfl
  have hzz := id hz
  obtain ⟨sz1, sz2, sz3⟩ := hzz
  refine (t8_yard hG (by omega) h (by omega) y k).post (fun r n' z' f' hq => ?_)
  obtain ⟨K', hK', hv, hM, hF⟩ := hq
  exact ⟨_, _, _, _, _, _, _, _, hv, ⟨_, _, _, _, _, _, _, hz.up (by omega) (by omega) (by omega), hM⟩, hF, fun I W A s hR => t9_yard hG (by omega) hR h.1.1 y k⟩
theorem pr_plain (hG : Ok G) (hd1 : 41 ≤ d) (hi5 : i < 512) (hX : XW S L tb tl fk fp kp i f n z) (w hh : Int32) : Tr G d 90 [.ref 0, .int w, .int hh] n z f (PQ G d 135 [.int w, .int hh] S L tb tl fk fp kp i f) := by
  obtain ⟨lp, N, Z, K, ro, to, ko, hz, h⟩ := hX
  have hCAP : CAP = 600000 := rfl
  have hSCAP : SCAP = 7302249 := rfl
  have hzz := id hz
  obtain ⟨sz1, sz2, sz3⟩ := hzz
  refine (t8_plain hG (by omega) h (by omega) (by omega) (by omega) w hh).post (fun r n' z' f' hq => ?_)
  by_cases hp : plP w hh
  · simp only [if_pos hp] at hq
    obtain ⟨hv, hM, hF⟩ := hq
    exact ⟨_, _, _, _, _, _, _, _, hv, ⟨_, _, _, _, _, _, _, hz.up (by omega) (by omega) (by omega), hM⟩, hF, fun I W A s hR => (t9_plain hG (by omega) hR w hh).post (fun _ _ _ _ hr => by simp only [if_pos hp] at hr; exact hr)⟩
  · simp only [if_neg hp] at hq
    obtain ⟨hv, hM, hF⟩ := hq
    exact ⟨_, _, _, _, _, _, _, _, hv, ⟨_, _, _, _, _, _, _, hz.up (by omega) (by omega) (by omega), hM⟩, hF, fun I W A s hR => (t9_plain hG (by omega) hR w hh).post (fun _ _ _ _ hr => by simp only [if_neg hp] at hr; exact hr)⟩
theorem pr_feed (hG : Ok G) (hd1 : 41 ≤ d) (hi5 : i < 512) (hX : XW S L tb tl fk fp kp i f n z) (a b c e g : Int32) : Tr G d 96 [.ref 0, .int a, .int b, .int c, .int e, .int g] n z f (PQ G d 146 [.int a, .int b, .int c, .int e, .int g] S L tb tl fk fp kp i f) := by
  obtain ⟨lp, N, Z, K, ro, to, ko, hz, h⟩ := hX
  have hCAP : CAP = 600000 := rfl
  have hSCAP : SCAP = 7302249 := rfl
  have hzz := id hz
  obtain ⟨sz1, sz2, sz3⟩ := hzz
  refine (t8_feed hG (by omega) h a b c e g).post (fun r n' z' f' hq => ?_)
  by_cases hp : tl + 20 ≤ 400
  · simp only [if_pos hp] at hq
    obtain ⟨hv, hM, hF⟩ := hq
    exact ⟨_, _, _, _, _, _, _, _, hv, ⟨_, _, _, _, _, _, _, hz.up (by omega) (by omega) (by omega), hM⟩, hF, fun I W A s hR => (t9_feed hG hR a b c e g).post (fun _ _ _ _ hr => by simp only [if_pos hp] at hr; exact hr)⟩
  · simp only [if_neg hp] at hq
    obtain ⟨hv, hM, hF⟩ := hq
    exact ⟨_, _, _, _, _, _, _, _, hv, ⟨_, _, _, _, _, _, _, hz.up (by omega) (by omega) (by omega), hM⟩, hF, fun I W A s hR => (t9_feed hG hR a b c e g).post (fun _ _ _ _ hr => by simp only [if_neg hp] at hr; exact hr)⟩
theorem pr_text (hG : Ok G) (hd1 : 41 ≤ d) (hi5 : i < 512) (hX : XW S L tb tl fk fp kp i f n z) : Tr G d 98 [.ref 0] n z f (PQ G d 166 [] S L tb tl fk fp kp i f) := by
  obtain ⟨lp, N, Z, K, ro, to, ko, hz, h⟩ := hX
  have hCAP : CAP = 600000 := rfl
  have hSCAP : SCAP = 7302249 := rfl
  have hzz := id hz
  obtain ⟨sz1, sz2, sz3⟩ := hzz
  refine (t8_text hG (by omega) h (by omega) (by omega)).post (fun r n' z' f' hq => ?_)
  unfold txR at hq
  obtain ⟨r, hr⟩ : ∃ r, r = pLw (tK tb tl) (tV tb tl) 17 0 [] := ⟨_, rfl⟩
  rw [← hr] at hq
  cases r with
  | inl q =>
    obtain ⟨why, j⟩ := q
    obtain ⟨N', Z', ro', hs, hv, hM, hF⟩ := hq
    exact ⟨_, _, _, _, _, _, _, _, hv, ⟨_, _, _, _, _, _, _, hz.up (by omega) (by omega) (by omega), hM⟩, hF, fun I W A s hR => (t9_text hG hd1 hM.2.1.1 hR).post (fun _ _ _ _ hr2 => by unfold RtX at hr2; rw [← hr] at hr2; exact hr2)⟩
  | inr q =>
    obtain ⟨b, ls⟩ := q
    obtain ⟨lp', N', Z', ro', ae, hs, hv, hM, hF⟩ := hq
    exact ⟨_, _, _, _, _, _, _, _, hv, ⟨_, _, _, _, _, _, _, hz.up (by omega) (by omega) (by omega), hM⟩, hF, fun I W A s hR => (t9_text hG hd1 hM.2.1.1 hR).post (fun _ _ _ _ hr2 => by unfold RtX at hr2; rw [← hr] at hr2; exact hr2 ae)⟩
theorem pr_placings (hG : Ok G) (hd1 : 41 ≤ d) (hi5 : i < 512) (hX : XW S L tb tl fk fp kp i f n z) (k w : Int32) : Tr G d 105 [.ref 0, .int k, .int w] n z f (PQ G d 198 [.int k, .int w] S L tb tl fk fp kp i f) := by
  obtain ⟨lp, N, Z, K, ro, to, ko, hz, h⟩ := hX
  have hCAP : CAP = 600000 := rfl
  have hSCAP : SCAP = 7302249 := rfl
  have hzz := id hz
  obtain ⟨sz1, sz2, sz3⟩ := hzz
  refine (t8_placings hG (by omega) h (by omega) (by omega) k w).post (fun r n' z' f' hq => ?_)
  by_cases hp : plcP S k w
  · simp only [if_pos hp] at hq
    obtain ⟨N', Z', to', an0, hs, ha0, hv, hM, hF⟩ := hq
    exact ⟨_, _, _, _, _, _, _, _, hv, ⟨_, _, _, _, _, _, _, hz.up (by omega) (by omega) (by omega), hM⟩, hF, fun I W A s hR => (t9_placings hG (by omega) hR ha0 k w).post (fun _ _ _ _ hr => by rw [if_pos hp] at hr; exact hr)⟩
  · simp only [if_neg hp] at hq
    obtain ⟨hv, hM, hF⟩ := hq
    exact ⟨_, _, _, _, _, _, _, _, hv, ⟨_, _, _, _, _, _, _, hz.up (by omega) (by omega) (by omega), hM⟩, hF, fun I W A s hR => (t9_placings hG (by omega) hR (an0 := fun j => if j = 0 then 0 else -1) (fun _ _ => rfl) k w).post (fun _ _ _ _ hr => by rw [if_neg hp] at hr; exact hr)⟩
theorem pr_image (hG : Ok G) (hd1 : 41 ≤ d) (hi5 : i < 512) (hX : XW S L tb tl fk fp kp i f n z) {b : Int32} (hb : b = 0 ∨ b = 1) : Tr G d 113 [.ref 0, .int b] n z f (PQ G d 210 [.int b] S L tb tl fk fp kp i f) := by
  obtain ⟨lp, N, Z, K, ro, to, ko, hz, h⟩ := hX
  have hCAP : CAP = 600000 := rfl
  have hSCAP : SCAP = 7302249 := rfl
  have hzz := id hz
  obtain ⟨sz1, sz2, sz3⟩ := hzz
  refine (t8_image hG (by omega) h (by omega) (by omega) (by omega) hb).post (fun r n' z' f' hq => ?_)
  unfold imR at hq
  by_cases hb0 : b = 0
  · rw [if_pos hb0] at hq
    cases kp with
    | none =>
      obtain ⟨hv, hM, hF⟩ := hq
      exact ⟨_, _, _, _, _, _, _, _, hv, ⟨_, _, _, _, _, _, _, hz.up (by omega) (by omega) (by omega), hM⟩, hF, fun I W A s hR => (t9_image hG hR hb).post (fun _ _ _ _ hr => by unfold RImR at hr; rw [if_pos hb0] at hr; exact hr)⟩
    | some q =>
      obtain ⟨S', L'⟩ := q
      obtain ⟨lp', K', hK', hv, hM, hF⟩ := hq
      exact ⟨_, _, _, _, _, _, _, _, hv, ⟨_, _, _, _, _, _, _, hz.up (by omega) (by omega) (by omega), hM⟩, hF, fun I W A s hR => (t9_image hG hR hb).post (fun _ _ _ _ hr => by unfold RImR at hr; rw [if_pos hb0] at hr; exact hr)⟩
  · rw [if_neg hb0] at hq
    obtain ⟨N', Z', ko', hs, hv, hM, hF⟩ := hq
    exact ⟨_, _, _, _, _, _, _, _, hv, ⟨_, _, _, _, _, _, _, hz.up (by omega) (by omega) (by omega), hM⟩, hF, fun I W A s hR => (t9_image hG hR hb).post (fun _ _ _ _ hr => by unfold RImR at hr; rw [if_neg hb0] at hr; exact hr)⟩
end Prs
