-- the hall and the rule hang on the first 300 numbers alone
theorem nN_cg {D D' : Nat → Int} (e : ∀ j : Nat, j < 300 → D' j = D j) : nN D' = nN D := by unfold nN; rw [e 0 (by omega)]
theorem nS_cg {D D' : Nat → Int} (e : ∀ j : Nat, j < 300 → D' j = D j) : nS D' = nS D := by unfold nS; rw [e 1 (by omega)]
theorem dB_cg {D D' : Nat → Int} (e : ∀ j : Nat, j < 300 → D' j = D j) (H : dB D) : dB D' := by
  have hN := nN_le H
  have hS := nS_le H
  obtain ⟨h0, h1, h2, h3, h4, h5, h6, h7⟩ := H
  refine ⟨by rw [e 0 (by omega)]; exact h0, by rw [e 1 (by omega)]; exact h1, by rw [e 2 (by omega)]; exact h2, fun s k hs hk => ?_, fun s hs => ?_, fun k hk => ?_, by rw [e 240 (by omega)]; exact h6, fun c hc => ?_⟩
  · rw [nS_cg e] at hs
    rw [nN_cg e] at hk
    rw [e _ (by omega), e 0 (by omega)]
    exact h3 s k hs hk
  · rw [nS_cg e] at hs
    rw [e _ (by omega), e _ (by omega), e _ (by omega)]
    exact h4 s hs
  · rw [nN_cg e] at hk
    rw [e _ (by omega), e _ (by omega), e 0 (by omega)]
    exact h5 k hk
  · have q := h7 c hc
    rw [e _ (by omega), e _ (by omega), e _ (by omega)]
    exact ⟨q.1, q.2.1, q.2.2.1, q.2.2.2.1, q.2.2.2.2.1, q.2.2.2.2.2.1, fun i hi => by rw [e _ (by omega)]; exact q.2.2.2.2.2.2 i hi⟩
theorem oD_cg {D D' : Nat → Int} (e : ∀ j : Nat, j < 300 → D' j = D j) {s k : Nat} (hs : s < 20) (hk : k < 8) : oD D' s k = oD D s k := by unfold oD; rw [e _ (by omega)]
theorem pB_cg {D D' : Nat → Int} {P : Nat → Nat → Nat} (e : ∀ j : Nat, j < 300 → D' j = D j) (hb : dB D) (H : pB D P) : pB D' P := by
  have hN := nN_le hb
  have hS := nS_le hb
  intro s k hs hk
  rw [nS_cg e] at hs
  rw [nN_cg e] at hk
  have q := H s k hs hk
  rw [nN_cg e, oD_cg e (by omega) (by omega), oD_cg e (by omega) (by omega)]
  exact q
theorem hallR_cg {h g : zHp} {a : Nat} {D D' W W' : Nat → Int} (eh : ∀ b : Nat, a ≤ b → b ≤ a + 9 → g b = h b) (e : ∀ j : Nat, j < 300 → D' j = D j) (eW : ∀ k : Nat, k < 8 → W' k = W k) (H : hallR h a D W) : hallR g a D' W' := by
  obtain ⟨hb, h2, h3, h4, h5, h6, h7, h8, h9⟩ := H
  have hN := nN_le hb
  have hN2 := nN_eq hb
  have hS := nS_le hb
  have ep : pX g a = pX h a := by unfold pX; rw [eh (a + 9) (by omega) (by omega)]
  refine ⟨dB_cg e hb, by rw [nN_cg e, e 2 (by omega)]; exact h2, by rw [eh a (by omega) (by omega), e 0 (by omega)]; exact h3, by rw [eh a (by omega) (by omega), e 2 (by omega)]; exact h4, by rw [eh a (by omega) (by omega), e 1 (by omega)]; exact h5, fun k hk => ?_, fun s hs => ?_, fun s k hs hk => ?_, by rw [ep]; exact pB_cg e hb h9⟩
  · rw [nN_cg e] at hk
    have q := h6 k hk
    rw [eh (a + 1) (by omega) (by omega), eh (a + 2) (by omega) (by omega), eh (a + 3) (by omega) (by omega), eh (a + 4) (by omega) (by omega), eW k (by omega), e (3 + k) (by omega), e (11 + k) (by omega), e 0 (by omega), e (11 + (h (a + 3) k).toNat) (by omega)]
    exact q
  · rw [nS_cg e] at hs
    rw [eh (a + 5) (by omega) (by omega), eh (a + 6) (by omega) (by omega), eh (a + 7) (by omega) (by omega), e (20 + s) (by omega), e (40 + s) (by omega), e (60 + s) (by omega)]
    exact h7 s hs
  · rw [nS_cg e] at hs
    rw [nN_cg e] at hk
    rw [eh (a + 8) (by omega) (by omega), eh (a + 9) (by omega) (by omega), e _ (by omega)]
    exact h8 s k hs hk
theorem eachP_cg {D D' : Nat → Int} (hb : dB D) (e : ∀ j : Nat, j < 300 → D' j = D j) {c : Nat} (hc : c < 4) {p : Int} (h0 : 0 ≤ p) : eachP D' c p = eachP D c p := by
  have q := hb.2.2.2.2.2.2.2 c hc
  unfold eachP
  rw [e (241 + c) (by omega), e (245 + c) (by omega), e (249 + c) (by omega)]
  by_cases z : p < D (249 + c)
  · rw [e (253 + 8 * c + p.toNat) (by omega)]
  · rw [if_neg z, if_neg z]
theorem ruleR_cg {h g : zHp} {a : Nat} {D D' : Nat → Int} (hb : dB D) (eh : ∀ b : Nat, a ≤ b → b ≤ a + 3 → g b = h b) (e : ∀ j : Nat, j < 300 → D' j = D j) (H : ruleR h a D) : ruleR g a D' := by
  unfold ruleR at H ⊢
  have hcl := hb.2.2.2.2.2.2.1
  rw [eh a (by omega) (by omega), eh (a + 1) (by omega) (by omega), eh (a + 2) (by omega) (by omega), eh (a + 3) (by omega) (by omega), e 240 (by omega)]
  refine ⟨H.1, fun c hc => ?_⟩
  have q := H.2 c hc
  rw [e (241 + c) (by omega), e (245 + c) (by omega)]
  refine ⟨q.1, q.2.1, q.2.2.1, fun z => ?_⟩
  obtain ⟨q1, mn, q2, q3, q4, q5⟩ := q.2.2.2 z
  exact ⟨q1, mn, q2, q3, fun i hi => by rw [eachP_cg hb e (by omega) (by omega)]; exact q4 i hi, fun r hr => by rw [eachP_cg hb e (by omega) (by omega)]; exact q5 r hr⟩
