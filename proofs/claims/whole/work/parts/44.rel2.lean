-- acts: steps s .. t of the reference stand as nodes n .. m of the class, blocks nested at most d deep
def blk (h : zHp) : Nat → Nat → Nat → Nat → Nat → Nat → Prop
  | 0, _, s, t, n, m => s = t ∧ n = m
  | f + 1, d, s, t, n, m => (s = t ∧ n = m) ∨ (s < t ∧ n < m ∧ h 33 n = h 126 s ∧
      ((0 ≤ h 126 s ∧ h 126 s ≤ 1 ∧ h 36 n = h 134 s ∧ h 129 s = (s : Int) + 1 ∧ blk h f d (s + 1) t (n + 1) m) ∨
       (2 ≤ h 126 s ∧ h 126 s ≤ 3 ∧ h 34 n = h 127 s ∧ 0 ≤ h 127 s ∧ h 127 s ≤ 19 ∧ h 35 n = h 128 s ∧ 0 ≤ h 128 s ∧ h 128 s ≤ 99 ∧ h 129 s = (s : Int) + 1 ∧ blk h f d (s + 1) t (n + 1) m) ∨
       (h 126 s = 4 ∧ h 34 n = h 127 s ∧ 0 ≤ h 127 s ∧ h 127 s ≤ 999 ∧ h 129 s = (s : Int) + 1 ∧ blk h f d (s + 1) t (n + 1) m) ∨
       (5 ≤ h 126 s ∧ h 126 s ≤ 7 ∧ (h 126 s = 5 → h 34 n = h 127 s ∧ 1 ≤ h 127 s ∧ h 127 s ≤ 9) ∧ (6 ≤ h 126 s → h 36 n = h 134 s ∧ h 37 n = h 127 s ∧ (h 127 s = 0 ∨ h 127 s = 1)) ∧
        ∃ d' s' e : Nat, d = d' + 1 ∧ s < s' ∧ s' ≤ t ∧ n < e ∧ e < m ∧ h 129 s = (s' : Int) ∧ h 33 e = 8 ∧ h 38 e = (n : Int) ∧ h 38 n = (e : Int) ∧ blk h f d' (s + 1) s' (n + 1) e ∧ blk h f d s' t (e + 1) m)))
theorem blk_cg {h g : zHp} (e : ∀ a : Nat, (a = 33 ∨ a = 34 ∨ a = 35 ∨ a = 36 ∨ a = 37 ∨ a = 38 ∨ a = 126 ∨ a = 127 ∨ a = 128 ∨ a = 129 ∨ a = 134) → g a = h a) : ∀ f d s t n m, blk h f d s t n m → blk g f d s t n m := by
  intro f
  induction f with
  | zero => intro d s t n m H; exact H
  | succ f ih =>
    intro d s t n m H
    unfold blk at H ⊢
    rw [e 33 (by omega), e 34 (by omega), e 35 (by omega), e 36 (by omega), e 37 (by omega), e 38 (by omega), e 126 (by omega), e 127 (by omega), e 128 (by omega), e 129 (by omega), e 134 (by omega)]
    rcases H with H | ⟨h1, h2, h3, H⟩
    · exact Or.inl H
    · refine Or.inr ⟨h1, h2, h3, ?_⟩
      rcases H with ⟨q1, q2, q3, q4, q5⟩ | ⟨q1, q2, q3, q4, q5, q6, q7, q8, q9, q10⟩ | ⟨q1, q2, q3, q4, q5, q6⟩ | ⟨q1, q2, q3, q4, d', s', e', w1, w2, w3, w4, w5, w6, w7, w8, w9, w10, w11⟩
      · exact Or.inl ⟨q1, q2, q3, q4, ih _ _ _ _ _ q5⟩
      · exact Or.inr (Or.inl ⟨q1, q2, q3, q4, q5, q6, q7, q8, q9, ih _ _ _ _ _ q10⟩)
      · exact Or.inr (Or.inr (Or.inl ⟨q1, q2, q3, q4, q5, ih _ _ _ _ _ q6⟩))
      · exact Or.inr (Or.inr (Or.inr ⟨q1, q2, q3, q4, d', s', e', w1, w2, w3, w4, w5, w6, w7, w8, w9, ih _ _ _ _ _ w10, ih _ _ _ _ _ w11⟩))
def rActs (h : zHp) : Prop := ∃ s n : Nat, h 117 26 = (s : Int) ∧ s ≤ 40 ∧ h 32 1 = (s : Int) ∧ h 32 0 = (n : Int) ∧ n ≤ 80 ∧ h 32 2 = h 117 33 ∧ (h 117 33 = 0 ∨ h 117 33 = 1) ∧ blk h 40 3 0 s 0 n
def rHR (h : zHp) : Prop := hallR h 4 (h 122) (h 123) ∧ ruleR h 24 (h 122)
theorem oc_fn {c : Nat} {h g : zHp} (e : zOc c h g) {a : Nat} (ha : ∀ i, obc a i = c) : g a = h a := funext (fun i => e a i (ha i))
theorem rActs_oc {h g : zHp} (e : zOc 8 h g) (H : rActs h) : rActs g := by
  obtain ⟨s, n, h1, h2, h3, h4, h5, h6, h7, h8⟩ := H
  refine ⟨s, n, by rw [e 117 26 rfl]; exact h1, h2, by rw [e 32 1 rfl]; exact h3, by rw [e 32 0 rfl]; exact h4, h5, by rw [e 32 2 rfl, e 117 33 rfl]; exact h6, by rw [e 117 33 rfl]; exact h7, blk_cg (fun a ha => ?_) _ _ _ _ _ _ h8⟩
  rcases ha with rfl | rfl | rfl | rfl | rfl | rfl | rfl | rfl | rfl | rfl | rfl <;> exact oc_fn e (fun i => rfl)
theorem rHR_oc {h g : zHp} (e : zOc 5 h g) (H : rHR h) : rHR g := by
  have eD : ∀ j : Nat, j < 300 → g 122 j = h 122 j := fun j hj => e 122 j (if_pos hj)
  refine ⟨hallR_cg (fun b h1 h2 => ?_) eD (fun k hk => e 123 k (if_pos hk)) H.1, ruleR_cg H.1.1 (fun b h1 h2 => ?_) eD H.2⟩
  · have : b = 4 ∨ b = 5 ∨ b = 6 ∨ b = 7 ∨ b = 8 ∨ b = 9 ∨ b = 10 ∨ b = 11 ∨ b = 12 ∨ b = 13 := by omega
    rcases this with rfl | rfl | rfl | rfl | rfl | rfl | rfl | rfl | rfl | rfl <;> exact oc_fn e (fun i => rfl)
  · have : b = 24 ∨ b = 25 ∨ b = 26 ∨ b = 27 := by omega
    rcases this with rfl | rfl | rfl | rfl <;> exact oc_fn e (fun i => rfl)
theorem rMarks_oc {h g : zHp} (e : zOc 6 h g) (H : rMarks h) : rMarks g := by
  obtain ⟨h1, h2, h3, h4⟩ := H
  refine ⟨by rw [e 0 11 rfl, e 117 22 rfl]; exact h1, by rw [e 117 22 rfl]; exact h2, by rw [e 117 22 rfl]; exact h3, fun i hi => ?_⟩
  rw [e 117 22 rfl] at hi
  have q := h4 i hi
  have i3 : i = 0 ∨ i = 1 ∨ i = 2 := by omega
  have eD : ∀ j : Nat, j < 300 → g 122 (300 * (i + 1) + j) = h 122 (300 * (i + 1) + j) := fun j hj => e 122 _ (by
    show (if 300 * (i + 1) + j < 300 then 5 else if 300 * (i + 1) + j < 1200 then 6 else 10) = 6
    rw [if_neg (by omega), if_pos (by omega)])
  have eW : ∀ k : Nat, k < 8 → g 123 (8 * (i + 1) + k) = h 123 (8 * (i + 1) + k) := fun k hk => e 123 _ (by
    show (if 8 * (i + 1) + k < 8 then 5 else if 8 * (i + 1) + k < 32 then 6 else 0) = 6
    rw [if_neg (by omega), if_pos (by omega)])
  have eC : ∀ b : Nat, 75 + 14 * i ≤ b → b ≤ 75 + 14 * i + 13 → g b = h b := fun b b1 b2 => oc_fn e (fun x => by
    have hb : 75 ≤ b ∧ b ≤ 116 := by omega
    exact (by decide +kernel : ∀ b, b < 117 → 75 ≤ b → ∀ x, x < 1 → obc b 0 = 6) b (by omega) hb.1 0 (by omega) ▸ (by
      have : ∀ b, b < 117 → 75 ≤ b → obc b x = obc b 0 := by
        intro b hb1 hb2
        have : b = 75 ∨ b = 76 ∨ b = 77 ∨ b = 78 ∨ b = 79 ∨ b = 80 ∨ b = 81 ∨ b = 82 ∨ b = 83 ∨ b = 84 ∨ b = 85 ∨ b = 86 ∨ b = 87 ∨ b = 88 ∨ b = 89 ∨ b = 90 ∨ b = 91 ∨ b = 92 ∨ b = 93 ∨ b = 94 ∨ b = 95 ∨ b = 96 ∨ b = 97 ∨ b = 98 ∨ b = 99 ∨ b = 100 ∨ b = 101 ∨ b = 102 ∨ b = 103 ∨ b = 104 ∨ b = 105 ∨ b = 106 ∨ b = 107 ∨ b = 108 ∨ b = 109 ∨ b = 110 ∨ b = 111 ∨ b = 112 ∨ b = 113 ∨ b = 114 ∨ b = 115 ∨ b = 116 := by omega
        rcases this with rfl | rfl | rfl | rfl | rfl | rfl | rfl | rfl | rfl | rfl | rfl | rfl | rfl | rfl | rfl | rfl | rfl | rfl | rfl | rfl | rfl | rfl | rfl | rfl | rfl | rfl | rfl | rfl | rfl | rfl | rfl | rfl | rfl | rfl | rfl | rfl | rfl | rfl | rfl | rfl | rfl | rfl <;> rfl
      exact this b (by omega) hb.1))
  exact ⟨hallR_cg (fun b b1 b2 => eC b b1 (by omega)) eD eW q.1, ruleR_cg q.1.1 (fun b b1 b2 => eC b (by omega) (by omega)) eD q.2⟩
/-- what holds between the two objects between calls -/
def Rel (h : zHp) : Prop := h 0 0 = h 117 0 ∧ rTray h ∧ rTape h ∧ rFound h ∧ rOpen h ∧ rHR h ∧ rMarks h ∧ rActed h ∧ rActs h ∧ rFrac h
theorem Rel.ex {h g : zHp} (e : zEx [] h g) (hs : g 0 0 = g 117 0) (H : Rel h) : Rel g := by
  obtain ⟨-, h1, h2, h3, h4, h5, h6, h7, h8, h9⟩ := H
  exact ⟨hs, rTray_oc (e 1 (by omega) (by omega) (by simp)) h1, rTape_oc (e 2 (by omega) (by omega) (by simp)) h2, rFound_oc (e 3 (by omega) (by omega) (by simp)) h3, rOpen_oc (e 4 (by omega) (by omega) (by simp)) h4, rHR_oc (e 5 (by omega) (by omega) (by simp)) h5, rMarks_oc (e 6 (by omega) (by omega) (by simp)) h6, rActed_oc (e 7 (by omega) (by omega) (by simp)) h7, rActs_oc (e 8 (by omega) (by omega) (by simp)) h8, rFrac_oc (e 9 (by omega) (by omega) (by simp)) h9⟩
