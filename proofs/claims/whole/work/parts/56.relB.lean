-- the relation behind changes of who stands and of voters
theorem eachP_cg2 {D D' : Nat → Int} (hb : dB D) (e : ∀ j : Nat, 240 ≤ j → j < 300 → D' j = D j) {c : Nat} (hc : c < 4) {p : Int} (h0 : 0 ≤ p) : eachP D' c p = eachP D c p := by
  have q := hb.2.2.2.2.2.2.2 c hc
  unfold eachP
  rw [e (241 + c) (by omega) (by omega), e (245 + c) (by omega) (by omega), e (249 + c) (by omega) (by omega)]
  by_cases z : p < D (249 + c)
  · rw [e (253 + 8 * c + p.toNat) (by omega) (by omega)]
  · rw [if_neg z, if_neg z]
theorem ruleR_cg2 {h g : zHp} {a a' : Nat} {D D' : Nat → Int} (hb : dB D) (e0 : g a' 0 = h a 0) (e1 : ∀ i : Nat, i < 4 → g (a' + 1) i = h (a + 1) i) (e2 : ∀ i : Nat, i < 4 → g (a' + 2) i = h (a + 2) i) (e3 : ∀ i : Nat, i < 32 → g (a' + 3) i = h (a + 3) i) (e : ∀ j : Nat, 240 ≤ j → j < 300 → D' j = D j) (H : ruleR h a D) : ruleR g a' D' := by
  unfold ruleR at H ⊢
  have hcl := hb.2.2.2.2.2.2.1
  rw [e0, e 240 (by omega) (by omega)]
  refine ⟨H.1, fun c hc => ?_⟩
  have q := H.2 c hc
  rw [e (241 + c) (by omega) (by omega), e (245 + c) (by omega) (by omega), e1 c (by omega), e2 c (by omega)]
  refine ⟨q.1, q.2.1, q.2.2.1, fun z => ?_⟩
  obtain ⟨q1, mn, q2, q3, q4, q5⟩ := q.2.2.2 z
  exact ⟨q1, mn, q2, q3, fun i hi => by rw [e3 _ (by omega), eachP_cg2 hb e (by omega) (by omega)]; exact q4 i hi, fun r hr => by rw [eachP_cg2 hb e (by omega) (by omega)]; exact q5 r hr⟩
theorem rHR_upd {h g : zHp} (H : rHR h) (hc : ∀ b : Nat, (5 ≤ b ∧ b ≤ 8 ∨ 11 ≤ b ∧ b ≤ 13 ∨ 24 ≤ b ∧ b ≤ 27) → g b = h b) (h40 : g 4 0 = h 4 0) (h47 : g 4 7 = h 4 7) (eD : ∀ j : Nat, ¬ j = 2 → ¬ (20 ≤ j ∧ j < 60) → j < 300 → g 122 j = h 122 j) (eW : ∀ k : Nat, k < 8 → g 123 k = h 123 k) (h2 : 0 ≤ g 122 2 ∧ g 122 2 < ((2 ^ nN (h 122) : Nat) : Int)) (h41 : g 4 1 = g 122 2) (h3 : ∀ s : Nat, s < nS (h 122) → g 9 s = g 122 (20 + s) ∧ g 10 s = g 122 (40 + s) ∧ 0 ≤ g 122 (20 + s) ∧ 0 ≤ g 122 (40 + s) ∧ g 122 (20 + s) + g 122 (40 + s) ≤ 198) : rHR g := by
  obtain ⟨⟨hb, hst, e0, e1, e7, ek, es, eo, hp⟩, hru⟩ := H
  have hN8 := nN_le hb
  have hNe := nN_eq hb
  have hS20 := nS_le hb
  have hcl := hb.2.2.2.2.2.2.1
  have eN : nN (g 122) = nN (h 122) := by unfold nN; rw [eD 0 (by omega) (by omega) (by omega)]
  have eS : nS (g 122) = nS (h 122) := by unfold nS; rw [eD 1 (by omega) (by omega) (by omega)]
  have ep : pX g 4 = pX h 4 := by unfold pX; rw [hc (4 + 9) (by omega)]
  have h256 := p2le hN8
  have hbg : dB (g 122) := by
    obtain ⟨b0, b1, b2, b3, b4, b5, b6, b7⟩ := hb
    unfold dB
    rw [eN, eS, eD 0 (by omega) (by omega) (by omega), eD 1 (by omega) (by omega) (by omega), eD 240 (by omega) (by omega) (by omega)]
    refine ⟨b0, b1, ⟨h2.1, by omega⟩, fun s k hs hk => ?_, fun s hs => ?_, fun k hk => ?_, b6, fun c hc4 => ?_⟩
    · rw [eD _ (by omega) (by omega) (by omega)]; exact b3 s k hs hk
    · rw [eD (60 + s) (by omega) (by omega) (by omega)]
      have q := h3 s hs
      have q2 := b4 s hs
      exact ⟨q.2.2.1, q.2.2.2.1, q.2.2.2.2, q2.2.2.2⟩
    · rw [eD _ (by omega) (by omega) (by omega), eD _ (by omega) (by omega) (by omega)]; exact b5 k hk
    · have q := b7 c hc4
      rw [eD (241 + c) (by omega) (by omega) (by omega), eD (245 + c) (by omega) (by omega) (by omega), eD (249 + c) (by omega) (by omega) (by omega)]
      exact ⟨q.1, q.2.1, q.2.2.1, q.2.2.2.1, q.2.2.2.2.1, q.2.2.2.2.2.1, fun i hi => by rw [eD _ (by omega) (by omega) (by omega)]; exact q.2.2.2.2.2.2 i hi⟩
  refine ⟨⟨hbg, by rw [eN]; exact h2.2, by rw [h40, eD 0 (by omega) (by omega) (by omega)]; exact e0, h41, by rw [h47, eD 1 (by omega) (by omega) (by omega)]; exact e7, fun k hk => ?_, fun s hs => ?_, fun s k hs hk => ?_, ?_⟩, ?_⟩
  · rw [eN] at hk
    have q := ek k hk
    rw [hc (4 + 1) (by omega), hc (4 + 2) (by omega), hc (4 + 3) (by omega), hc (4 + 4) (by omega), eW k (by omega), eD (3 + k) (by omega) (by omega) (by omega), eD (11 + k) (by omega) (by omega) (by omega), eD 0 (by omega) (by omega) (by omega), eD (11 + (h (4 + 3) k).toNat) (by omega) (by omega) (by omega)]
    exact q
  · rw [eS] at hs
    rw [hc (4 + 7) (by omega), eD (60 + s) (by omega) (by omega) (by omega)]
    have q := h3 s hs
    exact ⟨q.1, q.2.1, (es s hs).2.2⟩
  · rw [eS] at hs
    rw [eN] at hk
    rw [hc (4 + 8) (by omega), hc (4 + 9) (by omega), eD _ (by omega) (by omega) (by omega)]
    exact eo s k hs hk
  · intro s k hs hk
    rw [eS] at hs
    rw [eN] at hk
    have q := hp s k hs hk
    have eo2 : ∀ x : Nat, x < 8 → oD (g 122) s x = oD (h 122) s x := fun x hx => by unfold oD; rw [eD _ (by omega) (by omega) (by omega)]
    rw [ep, eN, eo2 _ (by omega), eo2 _ (by omega)]
    exact q
  · exact ruleR_cg2 hb (by rw [hc 24 (by omega)]) (fun i _ => by rw [hc (24 + 1) (by omega)]) (fun i _ => by rw [hc (24 + 2) (by omega)]) (fun i _ => by rw [hc (24 + 3) (by omega)]) (fun j h1 h2 => eD j (by omega) (by omega) h2) hru
theorem rel_stand {h h1 h2 : zHp} (H : Rel h) {k is v v' : Int}
    (hx : (cNam (h 122) k = 0 → (1 : Int) = v ∧ zup (zup h 4 1 (newS (h 122 2).toNat k.toNat is : Nat)) 0 0 0 = h1) ∧ (¬ cNam (h 122) k = 0 → pX0 h (0, cNam (h 122) k) v h1))
    (hm : (cNam (h1 122) k = 0 → (1 : Int) = v' ∧ zup (zup (zup h1 117 1 0) 117 0 0) 122 2 (newS (h1 122 2).toNat k.toNat is : Nat) = h2) ∧ (¬ cNam (h1 122) k = 0 → pM0 h1 (0, cNam (h1 122) k) v' h2)) : rOut h v v' h2 := by
  by_cases c : cNam (h 122) k = 0
  · have hk : 0 ≤ k ∧ k < h 122 0 := by
      unfold cNam at c
      split at c
      · next q => exact q
      · omega
    obtain ⟨hb, hst, -⟩ := H.2.2.2.2.2.1.1
    have hN := nN_eq hb
    have hN8 := nN_le hb
    have hlt := newS_lt is (stL hb hst) (show k.toNat < nN (h 122) by omega)
    obtain ⟨rfl, rfl⟩ := hx.1 c
    have e122 : zup (zup h 4 1 (newS (h 122 2).toNat k.toNat is : Nat)) 0 0 0 122 = h 122 := by rw [zup_off (by decide), zup_off (by decide)]
    rw [e122] at hm
    obtain ⟨rfl, rfl⟩ := hm.1 c
    clear hx hm
    generalize newS (h 122 2).toNat k.toNat is = y at *
    have L : zEx [5] h (zup (zup (zup (zup (zup h 4 1 (y : Int)) 0 0 0) 117 1 0) 117 0 0) 122 2 (y : Int)) := by
      refine zEx.up (zEx.up (zEx.up (zEx.up (zEx.up zEx.rf ?_) ?_) ?_) ?_) ?_
      · exact Or.inr (by decide)
      · exact Or.inl rfl
      · exact Or.inl rfl
      · exact Or.inl rfl
      · exact Or.inr (by decide)
    have e4 : ∀ i, ¬ i = 1 → zup (zup (zup (zup (zup h 4 1 (y : Int)) 0 0 0) 117 1 0) 117 0 0) 122 2 (y : Int) 4 i = h 4 i := fun i hi => by rw [zup_off (by decide), zup_off (by decide), zup_off (by decide), zup_off (by decide), zup_ne (by omega)]
    have e22 : ∀ j, ¬ j = 2 → zup (zup (zup (zup (zup h 4 1 (y : Int)) 0 0 0) 117 1 0) 117 0 0) 122 2 (y : Int) 122 j = h 122 j := fun j hj => by rw [zup_ne (by omega), zup_off (by decide), zup_off (by decide), zup_off (by decide), zup_off (by decide)]
    have eo : ∀ b : Nat, ¬ b = 4 → ¬ b = 0 → ¬ b = 117 → ¬ b = 122 → zup (zup (zup (zup (zup h 4 1 (y : Int)) 0 0 0) 117 1 0) 117 0 0) 122 2 (y : Int) b = h b := fun b b1 b2 b3 b4 => by rw [zup_off b4, zup_off b3, zup_off b3, zup_off b2, zup_off b1]
    have a2 : zup (zup (zup (zup (zup h 4 1 (y : Int)) 0 0 0) 117 1 0) 117 0 0) 122 2 (y : Int) 122 2 = (y : Int) := zup_at _ _ _ _
    have a1 : zup (zup (zup (zup (zup h 4 1 (y : Int)) 0 0 0) 117 1 0) 117 0 0) 122 2 (y : Int) 4 1 = (y : Int) := by rw [zup_off (by decide), zup_off (by decide), zup_off (by decide), zup_off (by decide), zup_at]
    have a0 : zup (zup (zup (zup (zup h 4 1 (y : Int)) 0 0 0) 117 1 0) 117 0 0) 122 2 (y : Int) 0 0 = 0 := by rw [zup_off (by decide), zup_off (by decide), zup_off (by decide), zup_at]
    have a7 : zup (zup (zup (zup (zup h 4 1 (y : Int)) 0 0 0) 117 1 0) 117 0 0) 122 2 (y : Int) 117 0 = 0 := by rw [zup_off (by decide), zup_at]
    generalize zup (zup (zup (zup (zup h 4 1 (y : Int)) 0 0 0) 117 1 0) 117 0 0) 122 2 (y : Int) = g at *
    refine ⟨rfl, Rel.exL L (by rw [a0, a7]) H (by simp) (by simp) (by simp) (by simp) (fun _ => ?_) (by simp) (by simp) (by simp) (by simp), ex200 L (by simp)⟩
    have es := H.2.2.2.2.2.1.1.2.2.2.2.2.2.1
    have hb4 := hb.2.2.2.2.1
    exact rHR_upd H.2.2.2.2.2.1 (fun b q => eo b (by omega) (by omega) (by omega) (by omega)) (e4 0 (by decide)) (e4 7 (by decide)) (fun j j2 _ _ => e22 j j2) (fun k _ => by rw [eo 123 (by decide) (by decide) (by decide) (by decide)]) (by rw [a2]; omega) (by rw [a1, a2]) (fun s hs => by
      rw [eo 9 (by decide) (by decide) (by decide) (by decide), eo 10 (by decide) (by decide) (by decide) (by decide), e22 _ (by omega), e22 _ (by omega)]
      have q := es s hs
      have q2 := hb4 s hs
      exact ⟨q.1, q.2.1, q2.1, q2.2.1, q2.2.2.1⟩)
  · have e122 : h1 122 = h 122 := (hx.2 c).2.2.1 122 (by omega)
    rw [e122] at hm
    exact H.tell2 (hx.2 c) (hm.2 c)
theorem rel_voters {h h1 h2 : zHp} (H : Rel h) {s i o v v' : Int}
    (hx : (cVot (h 122) s i o = 0 → (1 : Int) = v ∧ zup (zup (zup h 9 s.toNat i) 10 s.toNat o) 0 0 0 = h1) ∧ (¬ cVot (h 122) s i o = 0 → pX0 h (0, cVot (h 122) s i o) v h1))
    (hm : (cVot (h1 122) s i o = 0 → (1 : Int) = v' ∧ zup (zup (zup (zup h1 117 1 0) 117 0 0) 122 (20 + s.toNat) i) 122 (40 + s.toNat) o = h2) ∧ (¬ cVot (h1 122) s i o = 0 → pM0 h1 (0, cVot (h1 122) s i o) v' h2)) : rOut h v v' h2 := by
  by_cases c : cVot (h 122) s i o = 0
  · have hk : (0 ≤ s ∧ s < h 122 1) ∧ (0 ≤ i ∧ i ≤ 99) ∧ (0 ≤ o ∧ o ≤ 99) := by
      unfold cVot at c
      split at c
      · split at c <;> omega
      · omega
    obtain ⟨hb, hst, -⟩ := H.2.2.2.2.2.1.1
    have hS := nS_eq hb
    have hS20 := nS_le hb
    have hb2 := hb.2.2.1
    obtain ⟨rfl, rfl⟩ := hx.1 c
    have e122 : zup (zup (zup h 9 s.toNat i) 10 s.toNat o) 0 0 0 122 = h 122 := by rw [zup_off (by decide), zup_off (by decide), zup_off (by decide)]
    rw [e122] at hm
    obtain ⟨rfl, rfl⟩ := hm.1 c
    clear hx hm e122
    obtain ⟨s, rfl⟩ := Int.eq_ofNat_of_zero_le hk.1.1
    simp only [Int.toNat_natCast]
    have L : zEx [5] h (zup (zup (zup (zup (zup (zup (zup h 9 s i) 10 s o) 0 0 0) 117 1 0) 117 0 0) 122 (20 + s) i) 122 (40 + s) o) := by
      refine zEx.up (zEx.up (zEx.up (zEx.up (zEx.up (zEx.up (zEx.up zEx.rf ?_) ?_) ?_) ?_) ?_) ?_) ?_
      · exact Or.inr (show 5 ∈ [5] by decide)
      · exact Or.inr (show 5 ∈ [5] by decide)
      · exact Or.inl rfl
      · exact Or.inl rfl
      · exact Or.inl rfl
      · exact Or.inr (by show (if 20 + s < 300 then 5 else if 20 + s < 1200 then 6 else 10) ∈ [5]; rw [if_pos (by omega)]; decide)
      · exact Or.inr (by show (if 40 + s < 300 then 5 else if 40 + s < 1200 then 6 else 10) ∈ [5]; rw [if_pos (by omega)]; decide)
    have e22 : ∀ j, ¬ j = 20 + s → ¬ j = 40 + s → zup (zup (zup (zup (zup (zup (zup h 9 s i) 10 s o) 0 0 0) 117 1 0) 117 0 0) 122 (20 + s) i) 122 (40 + s) o 122 j = h 122 j := fun j hj hj2 => by rw [zup_ne (by omega), zup_ne (by omega), zup_off (by decide), zup_off (by decide), zup_off (by decide), zup_off (by decide), zup_off (by decide)]
    have eo : ∀ b : Nat, ¬ b = 9 → ¬ b = 10 → ¬ b = 0 → ¬ b = 117 → ¬ b = 122 → zup (zup (zup (zup (zup (zup (zup h 9 s i) 10 s o) 0 0 0) 117 1 0) 117 0 0) 122 (20 + s) i) 122 (40 + s) o b = h b := fun b b0 b1 b2 b3 b4 => by rw [zup_off b4, zup_off b4, zup_off b3, zup_off b3, zup_off b2, zup_off b1, zup_off b0]
    have ai : zup (zup (zup (zup (zup (zup (zup h 9 s i) 10 s o) 0 0 0) 117 1 0) 117 0 0) 122 (20 + s) i) 122 (40 + s) o 122 (20 + s) = i := by rw [zup_ne (by omega), zup_at]
    have ao : zup (zup (zup (zup (zup (zup (zup h 9 s i) 10 s o) 0 0 0) 117 1 0) 117 0 0) 122 (20 + s) i) 122 (40 + s) o 122 (40 + s) = o := by rw [zup_at]
    have xi : zup (zup (zup (zup (zup (zup (zup h 9 s i) 10 s o) 0 0 0) 117 1 0) 117 0 0) 122 (20 + s) i) 122 (40 + s) o 9 s = i := by rw [zup_off (by decide), zup_off (by decide), zup_off (by decide), zup_off (by decide), zup_off (by decide), zup_off (by decide), zup_at]
    have xo : zup (zup (zup (zup (zup (zup (zup h 9 s i) 10 s o) 0 0 0) 117 1 0) 117 0 0) 122 (20 + s) i) 122 (40 + s) o 10 s = o := by rw [zup_off (by decide), zup_off (by decide), zup_off (by decide), zup_off (by decide), zup_off (by decide), zup_at]
    have yi : ∀ j, ¬ j = s → zup (zup (zup (zup (zup (zup (zup h 9 s i) 10 s o) 0 0 0) 117 1 0) 117 0 0) 122 (20 + s) i) 122 (40 + s) o 9 j = h 9 j := fun j hj => by rw [zup_off (by decide), zup_off (by decide), zup_off (by decide), zup_off (by decide), zup_off (by decide), zup_off (by decide), zup_ne (by omega)]
    have yo : ∀ j, ¬ j = s → zup (zup (zup (zup (zup (zup (zup h 9 s i) 10 s o) 0 0 0) 117 1 0) 117 0 0) 122 (20 + s) i) 122 (40 + s) o 10 j = h 10 j := fun j hj => by rw [zup_off (by decide), zup_off (by decide), zup_off (by decide), zup_off (by decide), zup_off (by decide), zup_ne (by omega), zup_off (by decide)]
    have a0 : zup (zup (zup (zup (zup (zup (zup h 9 s i) 10 s o) 0 0 0) 117 1 0) 117 0 0) 122 (20 + s) i) 122 (40 + s) o 0 0 = 0 := by rw [zup_off (by decide), zup_off (by decide), zup_off (by decide), zup_off (by decide), zup_at]
    have a7 : zup (zup (zup (zup (zup (zup (zup h 9 s i) 10 s o) 0 0 0) 117 1 0) 117 0 0) 122 (20 + s) i) 122 (40 + s) o 117 0 = 0 := by rw [zup_off (by decide), zup_off (by decide), zup_at]
    generalize zup (zup (zup (zup (zup (zup (zup h 9 s i) 10 s o) 0 0 0) 117 1 0) 117 0 0) 122 (20 + s) i) 122 (40 + s) o = g at *
    refine ⟨rfl, Rel.exL L (by rw [a0, a7]) H (by simp) (by simp) (by simp) (by simp) (fun _ => ?_) (by simp) (by simp) (by simp) (by simp), ex200 L (by simp)⟩
    have es := H.2.2.2.2.2.1.1.2.2.2.2.2.2.1
    have hb4 := hb.2.2.2.2.1
    exact rHR_upd H.2.2.2.2.2.1 (fun b q => eo b (by omega) (by omega) (by omega) (by omega) (by omega)) (by rw [eo 4 (by decide) (by decide) (by decide) (by decide) (by decide)]) (by rw [eo 4 (by decide) (by decide) (by decide) (by decide) (by decide)]) (fun j j2 j3 _ => e22 j (by omega) (by omega)) (fun k _ => by rw [eo 123 (by decide) (by decide) (by decide) (by decide) (by decide)]) (by rw [e22 2 (by omega) (by omega)]; exact ⟨hb2.1, hst⟩) (by rw [eo 4 (by decide) (by decide) (by decide) (by decide) (by decide), e22 2 (by omega) (by omega)]; exact H.2.2.2.2.2.1.1.2.2.2.1) (fun s' hs => by
      by_cases e : s' = s
      · subst e
        rw [ai, ao, xi, xo]
        exact ⟨rfl, rfl, hk.2.1.1, hk.2.2.1, by omega⟩
      · rw [yi s' e, yo s' e, e22 _ (by omega) (by omega), e22 _ (by omega) (by omega)]
        have q := es s' hs
        have q2 := hb4 s' hs
        exact ⟨q.1, q.2.1, q2.1, q2.2.1, q2.2.2.1⟩)
  · have e122 : h1 122 = h 122 := (hx.2 c).2.2.1 122 (by omega)
    rw [e122] at hm
    exact H.tell2 (hx.2 c) (hm.2 c)
