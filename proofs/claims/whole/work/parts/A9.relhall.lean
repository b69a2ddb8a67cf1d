-- hall: both sides put together
theorem hallR_hI {f : zHp} {D W Df : Nat → Int} {ht : Int} (I : hI f D W ht) (e : ∀ j : Nat, j < 240 → Df j = fiD D ht j) (hr : (0 ≤ Df 240 ∧ Df 240 ≤ 4) ∧ (∀ c : Nat, c < 4 → 0 ≤ Df (241 + c) ∧ Df (241 + c) ≤ 5 ∧ 0 ≤ Df (245 + c) ∧ Df (245 + c) ≤ 99 ∧ 0 ≤ Df (249 + c) ∧ Df (249 + c) ≤ 8 ∧ ∀ i : Nat, i < 8 → 0 ≤ Df (253 + 8 * c + i) ∧ Df (253 + 8 * c + i) ≤ 99)) : hallR f 14 Df W := by
  obtain ⟨h1, h2, h3, h4, h5, h6, h7, h8, h9, h10⟩ := I
  have hn := nN_dN h1
  have RI : rowI (nN D) (f 17) (f 18) 0 := by
    rcases h4 with z | z
    · intro k hk
      have q := h9 z k (by omega)
      have q2 : (f 18 k).toNat = k ∧ (f 17 k).toNat = k := by omega
      rw [Nat.zero_add, q2.1, q2.2, Nat.zero_add]
      omega
    · exact (h10 z).1
  have o : ∀ j : Nat, j < 240 → ¬ (11 ≤ j ∧ j < 19) → Df j = D j := fun j j1 j2 => by
    rw [e j j1]
    unfold fiD
    split
    · exact tyF_n _ _ (by omega)
    · rfl
  have t : ∀ k : Nat, k < nN D → Df (11 + k) = f 18 k := fun k hk => by
    rw [e (11 + k) (by omega)]
    unfold fiD
    rcases h4 with z | z
    · rw [if_pos z, tyF_i _ _ hk, (h9 z k (by omega)).2]
    · rw [if_neg (by omega)]; exact (h10 z).2 k hk
  have eN : nN Df = nN D := by unfold nN; rw [o 0 (by omega) (by omega)]
  have eS : nS Df = nS D := by unfold nS; rw [o 1 (by omega) (by omega)]
  have p8 : 2 ^ nN D ≤ 2 ^ 8 := Nat.pow_le_pow_right (by omega) hn.2.1
  have ro : ∀ s k : Nat, s < nS D → k < nN D → f 22 (8 * s + k) = Df (80 + 8 * s + k) ∧ 0 ≤ f 22 (8 * s + k) ∧ f 22 (8 * s + k) < (nN D : Int) := fun s k hs hk => by
    have q := h8 s hs
    have q1 := (q.1 k hk).1
    rw [o _ (by omega) (by omega)]
    exact ⟨q.2 k hk, q1⟩
  unfold dN at h1
  refine ⟨⟨by rw [o 0 (by omega) (by omega)]; exact h1.1, by rw [o 1 (by omega) (by omega)]; exact h1.2, by rw [o 2 (by omega) (by omega)]; omega, fun s k hs hk => ?_, fun s hs => ?_, fun k hk => ?_, hr⟩, by rw [eN, o 2 (by omega) (by omega)]; exact h2.2, by rw [o 0 (by omega) (by omega)]; exact h3.1, by rw [o 2 (by omega) (by omega)]; exact h3.2.1, by rw [o 1 (by omega) (by omega)]; exact h3.2.2.2, fun k hk => ?_, fun s hs => ?_, fun s k hs hk => ?_, fun s k hs hk => ?_⟩
  · rw [eS] at hs
    rw [eN] at hk
    have q := ro s k hs hk
    rw [← q.1, o 0 (by omega) (by omega)]
    omega
  · rw [eS] at hs
    have q := h7 s hs
    unfold soI at q
    rw [o _ (by omega) (by omega), o _ (by omega) (by omega), o _ (by omega) (by omega)]
    omega
  · rw [eN] at hk
    have q := h6 k hk
    have q2 := (RI k hk).2.1
    rw [Nat.zero_add] at q2
    rw [t k hk, o _ (by omega) (by omega), o 0 (by omega) (by omega)]
    omega
  · rw [eN] at hk
    have q := RI k hk
    rw [Nat.zero_add, Nat.zero_add, Nat.zero_add] at q
    have q6 := h6 k hk
    have q7 := (RI (f 17 k).toNat (by omega)).2.2
    refine ⟨h5 k hk, by rw [o _ (by omega) (by omega)]; exact q6.1, by rw [t k hk], q.1.1, by rw [o 0 (by omega) (by omega)]; show f 17 k < D 0; omega, ?_, ?_⟩
    · show Df (11 + (f 17 k).toNat) = (k : Int)
      rw [t _ (by omega)]; exact q.2.2.2
    · show f 17 (Df (11 + k)).toNat = (k : Int)
      rw [t k hk]; exact q.2.2.1
  · rw [eS] at hs
    have q := h7 s hs
    unfold soI at q
    rw [o _ (by omega) (by omega), o _ (by omega) (by omega), o _ (by omega) (by omega)]
    exact ⟨q.1, q.2.1, q.2.2.1⟩
  · rw [eS] at hs
    rw [eN] at hk
    exact ⟨(ro s k hs hk).1, ((h8 s hs).1 k hk).2.1.1⟩
  · rw [eS] at hs
    rw [eN] at hk
    have q := (h8 s hs).1 k hk
    have od : ∀ x : Nat, x < nN D → oD Df s x = (f 22 (8 * s + x)).toNat := fun x hx => by unfold oD; rw [(ro s x hs hx).1]
    unfold pX
    show (f 23 (8 * s + k)).toNat < nN Df ∧ oD Df s (f 23 (8 * s + k)).toNat = k ∧ (f 23 (8 * s + oD Df s k)).toNat = k
    rw [od _ (by omega), od k hk, q.2.2.1, q.2.2.2, eN]
    omega
theorem obc_sp (a i : Nat) (h : (14 ≤ a ∧ a ≤ 23) ∨ (28 ≤ a ∧ a ≤ 31) ∨ (40 ≤ a ∧ a ≤ 47)) : obc a i = 0 := by
  have : a = 14 ∨ a = 15 ∨ a = 16 ∨ a = 17 ∨ a = 18 ∨ a = 19 ∨ a = 20 ∨ a = 21 ∨ a = 22 ∨ a = 23 ∨ a = 28 ∨ a = 29 ∨ a = 30 ∨ a = 31 ∨ a = 40 ∨ a = 41 ∨ a = 42 ∨ a = 43 ∨ a = 44 ∨ a = 45 ∨ a = 46 ∨ a = 47 := by omega
  rcases this with rfl | rfl | rfl | rfl | rfl | rfl | rfl | rfl | rfl | rfl | rfl | rfl | rfl | rfl | rfl | rfl | rfl | rfl | rfl | rfl | rfl | rfl <;> rfl
theorem obc_sp2 (a i : Nat) (h : 130 ≤ a ∧ a ≤ 133) : obc a i = 0 := by
  have : a = 130 ∨ a = 131 ∨ a = 132 ∨ a = 133 := by omega
  rcases this with rfl | rfl | rfl | rfl <;> rfl
theorem obc_h5 (a i : Nat) (h : (4 ≤ a ∧ a ≤ 13) ∨ (24 ≤ a ∧ a ≤ 27)) : obc a i = 5 := by
  have : a = 4 ∨ a = 5 ∨ a = 6 ∨ a = 7 ∨ a = 8 ∨ a = 9 ∨ a = 10 ∨ a = 11 ∨ a = 12 ∨ a = 13 ∨ a = 24 ∨ a = 25 ∨ a = 26 ∨ a = 27 := by omega
  rcases this with rfl | rfl | rfl | rfl | rfl | rfl | rfl | rfl | rfl | rfl | rfl | rfl | rfl | rfl <;> rfl
/-- what changed by a reading: component 2 and the new block -/
theorem exP {h h1 h2 : zHp} (lo hi : Nat) (hlo : (lo = 14 ∧ hi = 23) ∨ (lo = 28 ∧ hi = 31) ∨ (lo = 40 ∧ hi = 47)) (x1 : ∀ c : Nat, ¬ c = 0 → ¬ c = 2 → ¬ (lo ≤ c ∧ c ≤ hi) → h1 c = h c) (x0 : ∀ i : Nat, ¬ i = 0 → h1 0 i = h 0 i) (m1 : ∀ c : Nat, ¬ c = 117 → ¬ c = 122 → ¬ c = 123 → ¬ (130 ≤ c ∧ c ≤ 133) → ¬ c = 135 → h2 c = h1 c) (m2 : ∀ i : Nat, ¬ i = 0 → ¬ i = 1 → ¬ (8 ≤ i ∧ i ≤ 19) → ¬ i = 70 → ¬ i = 27 → ¬ i = 34 → h2 117 i = h1 117 i) (m3 : ∀ i : Nat, i < 1200 → h2 122 i = h1 122 i) (m4 : ∀ i : Nat, i < 32 → h2 123 i = h1 123 i) : zEx [2, 10] h h2 := by
  intro c c1 c2 cL a i hai
  have n2 : ¬ c = 2 := fun z => cL (by rw [z]; decide)
  have n10 : ¬ c = 10 := fun z => cL (by rw [z]; decide)
  have sm : ∀ b : Nat, a = b → obc b i = c := fun b e => e ▸ hai
  have hx : a = 0 ∨ h1 a = h a := by
    by_cases z0 : a = 0
    · exact Or.inl z0
    · refine Or.inr (x1 a z0 (fun z => ?_) (fun z => ?_))
      · have q : (if i = 1 ∨ i = 8 ∨ i = 9 then 2 else 0) = c := sm 2 z
        split at q <;> omega
      · have q : obc a i = 0 := obc_sp a i (by omega)
        omega
  have h0 : a = 0 → h1 a i = h a i := fun z => by
    subst z
    exact x0 i (fun z => by have q : (if i = 11 then 6 else 0) = c := hai; rw [if_neg (by omega)] at q; omega)
  have hx2 : h1 a i = h a i := by
    rcases hx with z | z
    · exact h0 z
    · rw [z]
  by_cases p1 : a = 117
  · subst p1
    have hq : (if i = 2 ∨ i = 3 then 9 else if i = 8 ∨ i = 10 ∨ i = 11 then 2 else if i = 22 then 6 else if i = 26 ∨ i = 33 then 8 else if i = 29 ∨ i = 30 ∨ i = 31 ∨ i = 32 ∨ i = 35 then 7 else if i = 49 ∨ i = 50 ∨ i = 51 ∨ i = 52 then 3 else if i = 61 ∨ i = 62 then 4 else 0) = c := hai
    clear hai sm
    rw [m2 i ?_ ?_ ?_ ?_ ?_ ?_]
    · exact hx2
    all_goals (intro z; (repeat' split at hq) <;> omega)
  · by_cases p2 : a = 122
    · subst p2
      have hq : (if i < 300 then 5 else if i < 1200 then 6 else 10) = c := hai
      rw [m3 i (by (repeat' split at hq) <;> omega)]
      exact hx2
    · by_cases p3 : a = 123
      · subst p3
        have hq : (if i < 8 then 5 else if i < 32 then 6 else 0) = c := hai
        rw [m4 i (by (repeat' split at hq) <;> omega)]
        exact hx2
      · rw [m1 a p1 p2 p3 (fun z => ?_) (fun z => ?_)]
        · exact hx2
        · have q : obc a i = 0 := obc_sp2 a i (by omega)
          omega
        · have q : obc a i = 0 := by rw [z]; rfl
          omega
theorem exQ {h h1 h2 : zHp} (lo hi : Nat) (hlo : (lo = 14 ∧ hi = 23) ∨ (lo = 28 ∧ hi = 31) ∨ (lo = 40 ∧ hi = 47)) (x1 : ∀ c : Nat, ¬ c = 0 → ¬ c = 2 → ¬ (lo ≤ c ∧ c ≤ hi) → ¬ (4 ≤ c ∧ c ≤ 13) → ¬ (24 ≤ c ∧ c ≤ 27) → h1 c = h c) (x0 : ∀ i : Nat, ¬ i = 0 → h1 0 i = h 0 i) (m1 : ∀ c : Nat, ¬ c = 117 → ¬ c = 122 → ¬ c = 123 → ¬ (130 ≤ c ∧ c ≤ 133) → ¬ c = 135 → h2 c = h1 c) (m2 : ∀ i : Nat, ¬ i = 0 → ¬ i = 1 → ¬ (8 ≤ i ∧ i ≤ 19) → ¬ i = 70 → ¬ i = 27 → ¬ i = 34 → h2 117 i = h1 117 i) (m3 : ∀ i : Nat, 300 ≤ i → i < 1200 → h2 122 i = h1 122 i) (m4 : ∀ i : Nat, 8 ≤ i → i < 32 → h2 123 i = h1 123 i) : zEx [2, 5, 10] h h2 := by
  intro c c1 c2 cL a i hai
  have n2 : ¬ c = 2 := fun z => cL (by rw [z]; decide)
  have n5 : ¬ c = 5 := fun z => cL (by rw [z]; decide)
  have n10 : ¬ c = 10 := fun z => cL (by rw [z]; decide)
  have sm : ∀ b : Nat, a = b → obc b i = c := fun b e => e ▸ hai
  have hx : a = 0 ∨ h1 a = h a := by
    by_cases z0 : a = 0
    · exact Or.inl z0
    · refine Or.inr (x1 a z0 (fun z => ?_) (fun z => ?_) (fun z => ?_) (fun z => ?_))
      · have q : (if i = 1 ∨ i = 8 ∨ i = 9 then 2 else 0) = c := sm 2 z
        split at q <;> omega
      · have q : obc a i = 0 := obc_sp a i (by omega)
        omega
      · have q : obc a i = 5 := obc_h5 a i (by omega)
        omega
      · have q : obc a i = 5 := obc_h5 a i (by omega)
        omega
  have h0 : a = 0 → h1 a i = h a i := fun z => by
    subst z
    exact x0 i (fun z => by have q : (if i = 11 then 6 else 0) = c := hai; rw [if_neg (by omega)] at q; omega)
  have hx2 : h1 a i = h a i := by
    rcases hx with z | z
    · exact h0 z
    · rw [z]
  by_cases p1 : a = 117
  · subst p1
    have hq : (if i = 2 ∨ i = 3 then 9 else if i = 8 ∨ i = 10 ∨ i = 11 then 2 else if i = 22 then 6 else if i = 26 ∨ i = 33 then 8 else if i = 29 ∨ i = 30 ∨ i = 31 ∨ i = 32 ∨ i = 35 then 7 else if i = 49 ∨ i = 50 ∨ i = 51 ∨ i = 52 then 3 else if i = 61 ∨ i = 62 then 4 else 0) = c := hai
    clear hai sm
    rw [m2 i ?_ ?_ ?_ ?_ ?_ ?_]
    · exact hx2
    all_goals (intro z; (repeat' split at hq) <;> omega)
  · by_cases p2 : a = 122
    · subst p2
      have hq : (if i < 300 then 5 else if i < 1200 then 6 else 10) = c := hai
      rw [m3 i (by (repeat' split at hq) <;> omega) (by (repeat' split at hq) <;> omega)]
      exact hx2
    · by_cases p3 : a = 123
      · subst p3
        have hq : (if i < 8 then 5 else if i < 32 then 6 else 0) = c := hai
        rw [m4 i (by (repeat' split at hq) <;> omega) (by (repeat' split at hq) <;> omega)]
        exact hx2
      · rw [m1 a p1 p2 p3 (fun z => ?_) (fun z => ?_)]
        · exact hx2
        · have q : obc a i = 0 := obc_sp2 a i (by omega)
          omega
        · have q : obc a i = 0 := by rw [z]; rfl
          omega
theorem xHp_hi {g h : zHp} {R : Rh} {v : Int} (H : xHp g R v h) : ∀ c : Nat, 24 ≤ c → h c = g c := by
  intro c hc
  cases R with
  | inl e =>
    obtain ⟨-, f, X, e2⟩ := H
    rw [← e2, zup_off (by omega), zup_off (by omega)]
    exact X.1.1 c (by omega) (by omega)
  | inr s =>
    obtain ⟨-, f, f2, X, -, -, -, C, e2⟩ := H
    rw [← e2, zup_off (by omega), C.1 c (by omega), zup_off (by omega)]
    exact X.1 c (by omega) (by omega)
theorem xOp_c {h : zHp} {n : Int} {c : Nat} (hc : ¬ c = 2) : xOp h n c = h c := by unfold xOp; rw [zup_off hc, zup_off hc, zup_off hc, zup_off hc]
theorem rel_hall {h h1 h2 : zHp} (H : Rel h) {L : Nat} {v v' : Int} (hx : xHp (xOp h L) (hallF (h 3) L 701 0 (nwD h) (nwW h) 0) v h1) (hm : ∃ g, opP (zup (zup h1 117 1 0) 117 0 0) (h 3) L g ∧ mHp g (h 3) L (hallF (h 3) L 701 0 (nwD h1) (nwW h1) 0) v' h2) : rOut h v v' h2 := by
  obtain ⟨g, O, hm⟩ := hm
  have hi : ∀ c : Nat, 24 ≤ c → h1 c = h c := fun c hc => (xHp_hi hx c hc).trans (xOp_c (by omega))
  have eD : nwD h1 = nwD h := by unfold nwD; rw [hi 122 (by omega)]
  have eW : nwW h1 = nwW h := by unfold nwW; rw [hi 123 (by omega)]
  rw [eD, eW] at hm
  have og : ∀ c : Nat, ¬ c = 117 → g c = h1 c := fun c hc => by rw [O.1 c hc, zup_off hc, zup_off hc]
  have oi : ∀ i : Nat, ¬ i = 0 → ¬ i = 1 → ¬ i = 8 → ¬ i = 9 → ¬ (12 ≤ i ∧ i ≤ 19) → g 117 i = h1 117 i := fun i i0 i1 i2 i3 i4 => by rw [O.2.1 i i2 i3 i4, zup_ne (by omega), zup_ne (by omega)]
  have o0 : g 117 0 = 0 := by rw [O.2.1 0 (by decide) (by decide) (by decide), zup_at]
  have nB1 : nB h → nB g := fun z => nB_cg (fun j _ => by rw [og 122 (by decide), hi 122 (by omega)]) z
  generalize hallF (h 3) L 701 0 (nwD h) (nwW h) 0 = R at hx hm
  cases R with
  | inl e =>
    obtain ⟨rfl, f, X, e1⟩ := hx
    obtain ⟨rfl, g2, X2, e2⟩ := hm
    have h1c : ∀ c : Nat, ¬ c = 0 → ¬ c = 2 → ¬ (14 ≤ c ∧ c ≤ 23) → h1 c = h c := fun c c1 c2 c3 => by rw [← e1, zup_off c1, zup_off c2, X.1.1 c c2 c3, xOp_c c2]
    have h10 : ∀ i : Nat, ¬ i = 0 → h1 0 i = h 0 i := fun i hi => by rw [← e1, zup_ne (by omega), zup_off (by decide), X.1.1 0 (by decide) (by omega), xOp_c (by decide)]
    have h2c : ∀ c : Nat, ¬ c = 117 → ¬ c = 122 → ¬ c = 123 → h2 c = h1 c := fun c c1 c2 c3 => by rw [← e2, zup_off c1, zup_off c1, zup_off c1, X2.1.1 c c1 c2 c3, og c c1]
    have h2i : ∀ i : Nat, ¬ i = 0 → ¬ i = 1 → ¬ (8 ≤ i ∧ i ≤ 19) → ¬ i = 70 → h2 117 i = h1 117 i := fun i i0 i1 i2 i3 => by rw [← e2, zup_ne (by omega), zup_ne (by omega), zup_ne (by omega), X2.1.2.1 i (by omega) i3, oi i i0 i1 (by omega) (by omega) (by omega)]
    have h22 : ∀ i : Nat, i < 1200 → h2 122 i = h1 122 i := fun i hi => by rw [← e2, zup_off (by decide), zup_off (by decide), zup_off (by decide), X2.1.2.2.1 i hi, og 122 (by decide)]
    have h23 : ∀ i : Nat, i < 32 → h2 123 i = h1 123 i := fun i hi => by rw [← e2, zup_off (by decide), zup_off (by decide), zup_off (by decide), X2.1.2.2.2.2.1 i hi, og 123 (by decide)]
    have E := exP 14 23 (Or.inl ⟨rfl, rfl⟩) h1c h10 (fun c c1 c2 c3 _ _ => h2c c c1 c2 c3) (fun i i0 i1 i2 i3 _ _ => h2i i i0 i1 i2 i3) h22 h23
    have s0 : h2 0 0 = 10 := by rw [h2c 0 (by decide) (by decide) (by decide), ← e1, zup_at]
    have s7 : h2 117 0 = 10 := by rw [← e2, zup_at]
    refine ⟨rfl, Rel.exL E (by rw [s0, s7]) H (by simp) (fun _ => ?_) (by simp) (by simp) (by simp) (by simp) (by simp) (by simp) (by simp), ?_, ?_, fun z => ?_⟩
    · have a8 : h2 117 8 = 0 := by rw [← e2, zup_ne (by decide), zup_ne (by decide), zup_ne (by decide), X2.1.2.1 8 (by decide) (by decide), O.2.2.1]
      have a10 : h2 117 10 = e.1 := by rw [← e2, zup_ne (by decide), zup_ne (by decide), zup_at]
      have a11 : h2 117 11 = (e.2 : Int) := by rw [← e2, zup_ne (by decide), zup_at]
      have b1 : h2 2 1 = 0 := by rw [h2c 2 (by decide) (by decide) (by decide), ← e1, zup_off (by decide), zup_at]
      have b8 : h2 2 8 = e.1 := by rw [h2c 2 (by decide) (by decide) (by decide), ← e1, zup_off (by decide), zup_ne (by decide)]; exact X.2.1
      have b9 : h2 2 9 = (e.2 : Int) := by rw [h2c 2 (by decide) (by decide) (by decide), ← e1, zup_off (by decide), zup_ne (by decide)]; exact X.2.2
      unfold rTape
      rw [a8, a10, a11, b1, b8, b9]
      exact ⟨rfl, by omega, by omega, fun i hi => by omega, rfl, rfl⟩
    · rw [h2c 200 (by decide) (by decide) (by decide), hi 200 (by decide)]
    · rw [h2c 201 (by decide) (by decide) (by decide), hi 201 (by decide)]
    · refine nB_cg (fun j hj => ?_) (X2.1.2.2.2.2.2 (nB1 z))
      rw [← e2, zup_off (by decide), zup_off (by decide), zup_off (by decide)]
  | inr s =>
    obtain ⟨rfl, f, f2, X, f8, f9, I, C, e1⟩ := hx
    obtain ⟨rfl, hd, g2, g3, M2, M3, e2⟩ := hm
    have h1c : ∀ c : Nat, ¬ c = 0 → ¬ c = 2 → ¬ (14 ≤ c ∧ c ≤ 23) → ¬ (4 ≤ c ∧ c ≤ 13) → ¬ (24 ≤ c ∧ c ≤ 27) → h1 c = h c := fun c c1 c2 c3 c4 _ => by rw [← e1, zup_off c1, C.1 c (by omega), zup_off c2, X.1 c c2 c3, xOp_c c2]
    have h10 : ∀ i : Nat, ¬ i = 0 → h1 0 i = h 0 i := fun i hi => by rw [← e1, zup_ne (by omega), C.1 0 (by omega), zup_off (by decide), X.1 0 (by decide) (by omega), xOp_c (by decide)]
    have g3c : ∀ c : Nat, ¬ c = 117 → ¬ c = 122 → ¬ c = 123 → g3 c = h1 c := fun c c1 c2 c3 => by rw [M3.1.1 c c1 c2 c3, zup_off c1, zup_off c1, M2.1.1 c c1 c2 c3, og c c1]
    have h2c : ∀ c : Nat, ¬ c = 117 → ¬ c = 122 → ¬ c = 123 → h2 c = h1 c := fun c c1 c2 c3 => by rw [← e2, zcp_off c3, zcp_off c2, g3c c c1 c2 c3]
    have h27 : h2 117 = g3 117 := by rw [← e2, zcp_off (by decide), zcp_off (by decide)]
    have g3i : ∀ i : Nat, ¬ (12 ≤ i ∧ i ≤ 19) → ¬ i = 70 → ¬ i = 10 → ¬ i = 11 → g3 117 i = g 117 i := fun i i1 i2 i3 i4 => by rw [M3.1.2.1 i i1 i2, zup_ne (by omega), zup_ne (by omega), M2.1.2.1 i i1 i2]
    have h2i : ∀ i : Nat, ¬ i = 0 → ¬ i = 1 → ¬ (8 ≤ i ∧ i ≤ 19) → ¬ i = 70 → h2 117 i = h1 117 i := fun i i0 i1 i2 i3 => by rw [h27, g3i i (by omega) i3 (by omega) (by omega), oi i i0 i1 (by omega) (by omega) (by omega)]
    have g32 : ∀ i : Nat, i < 1200 → g3 122 i = h1 122 i := fun i hi => by rw [M3.1.2.2.1 i hi, zup_off (by decide), zup_off (by decide), M2.1.2.2.1 i hi, og 122 (by decide)]
    have h22a : ∀ i : Nat, i < 240 → h2 122 i = fiD s.2.1 s.2.2.2 i := fun i hi => by rw [← e2, zcp_off (by decide), zcp_rd, if_pos ⟨rfl, by omega, by omega⟩, Nat.sub_zero]; exact M3.c i (by omega)
    have h22 : ∀ i : Nat, 240 ≤ i → h2 122 i = g3 122 i := fun i hi => by rw [← e2, zcp_off (by decide), zcp_rd, if_neg (by omega)]
    have h23a : ∀ k : Nat, k < 8 → h2 123 k = s.2.2.1 k := fun k hk => by rw [← e2, zcp_rd, if_pos ⟨rfl, by omega, by omega⟩, Nat.sub_zero, zcp_off (by decide)]; exact M3.w k hk
    have h23 : ∀ i : Nat, 8 ≤ i → i < 32 → h2 123 i = h1 123 i := fun i i1 i2 => by rw [← e2, zcp_rd, if_neg (by omega), zcp_off (by decide), M3.1.2.2.2.2.1 i i2, zup_off (by decide), zup_off (by decide), M2.1.2.2.2.2.1 i i2, og 123 (by decide)]
    have E := exQ 14 23 (Or.inl ⟨rfl, rfl⟩) h1c h10 (fun c c1 c2 c3 _ _ => h2c c c1 c2 c3) (fun i i0 i1 i2 i3 _ _ => h2i i i0 i1 i2 i3) (fun i i1 i2 => by rw [h22 i (by omega), g32 i i2]) h23
    have s0 : h2 0 0 = 0 := by rw [h2c 0 (by decide) (by decide) (by decide), ← e1, zup_at]
    have s7 : h2 117 0 = 0 := by rw [h27, g3i 0 (by decide) (by decide) (by decide) (by decide), o0]
    have HR0 := H.2.2.2.2.2.1
    have eru : ∀ j : Nat, 240 ≤ j → j < 300 → h2 122 j = h 122 j := fun j j1 j2 => by rw [h22 j j1, g32 j (by omega), hi 122 (by omega)]
    have hb0 := HR0.1.1
    refine ⟨rfl, Rel.exL E (by rw [s0, s7]) H (by simp) (fun _ => ?_) (by simp) (by simp) (fun _ => ?_) (by simp) (by simp) (by simp) (by simp), ?_, ?_, fun z => ?_⟩
    · have a8 : h2 117 8 = 0 := by rw [h27, g3i 8 (by decide) (by decide) (by decide) (by decide), O.2.2.1]
      have a10 : h2 117 10 = 0 := by rw [h27, M3.1.2.1 10 (by decide) (by decide), zup_ne (by decide), zup_at]
      have a11 : h2 117 11 = -1 := by rw [h27, M3.1.2.1 11 (by decide) (by decide), zup_at]
      have b2 : ∀ i : Nat, h2 2 i = zup f 2 1 0 2 i := fun i => by rw [h2c 2 (by decide) (by decide) (by decide), ← e1, zup_off (by decide), C.1 2 (by omega)]
      unfold rTape
      rw [a8, a10, a11, b2 1, b2 8, b2 9, zup_at, zup_ne (by decide), zup_ne (by decide), f8, f9]
      exact ⟨rfl, by omega, by omega, fun i hi => by omega, rfl, rfl⟩
    · have R14 : hallR (zup f 2 1 0) 14 (h2 122) s.2.2.1 := by
        refine hallR_hI (D := s.2.1) (ht := s.2.2.2) (hJ.fr I (fun c hc => zup_off hc)) h22a ?_
        have q7 := hb0.2.2.2.2.2.2
        refine ⟨by rw [eru 240 (by omega) (by omega)]; exact q7.1, fun c hc => ?_⟩
        have q := q7.2 c hc
        rw [eru _ (by omega) (by omega), eru _ (by omega) (by omega), eru _ (by omega) (by omega)]
        exact ⟨q.1, q.2.1, q.2.2.1, q.2.2.2.1, q.2.2.2.2.1, q.2.2.2.2.2.1, fun i hi => by rw [eru _ (by omega) (by omega)]; exact q.2.2.2.2.2.2 i hi⟩
      have R4 := hallR_mv (D' := h2 122) (W' := h2 123) C (fun j _ => rfl) (fun k hk => h23a k hk) R14
      refine ⟨hallR_cg (fun b b1 b2 => ?_) (fun j _ => rfl) (fun k _ => rfl) R4, ruleR_cg2 hb0 ?_ ?_ ?_ ?_ eru HR0.2⟩
      · rw [h2c b (by omega) (by omega) (by omega), ← e1, zup_off (by omega)]
      · rw [h2c 24 (by decide) (by decide) (by decide), hi 24 (by decide)]
      · intro i _; rw [h2c 25 (by decide) (by decide) (by decide), hi 25 (by decide)]
      · intro i _; rw [h2c 26 (by decide) (by decide) (by decide), hi 26 (by decide)]
      · intro i _; rw [h2c 27 (by decide) (by decide) (by decide), hi 27 (by decide)]
    · rw [h2c 200 (by decide) (by decide) (by decide), hi 200 (by decide)]
    · rw [h2c 201 (by decide) (by decide) (by decide), hi 201 (by decide)]
    · have n2 := M2.1.2.2.2.2.2 (nB1 z)
      have n3 := M3.1.2.2.2.2.2 (nB_cg (fun j _ => by rw [zup_off (by decide), zup_off (by decide)]) n2)
      exact nB_cg (fun j hj => h22 j (by omega)) n3
