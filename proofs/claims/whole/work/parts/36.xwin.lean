-- the class tells who is left and who wins (written by wip/tools/specX6.py)
/-- what the class's rule (cells 24 to 27) holds -/
def rX (h : zHp) (D : Nat → Int) : Prop := h 24 0 = D 240 ∧ ∀ c : Nat, (c : Int) < D 240 → (D (241 + c) = 2 → h 25 c = 1) ∧ (D (241 + c) = 3 → h 25 c = 2) ∧ (D (241 + c) = 5 → h 25 c = 3 ∧ h 26 c = D (245 + c)) ∧ ((D (241 + c) = 0 ∨ D (241 + c) = 1 ∨ D (241 + c) = 4) → h 25 c = 0 ∧ ∃ mn : Nat, mn ≤ 8 ∧ h 26 c = (mn : Int) ∧ (∀ i : Nat, i < mn → h 27 (8 * c + i) = eachP D c i) ∧ ∀ q : Int, (mn : Int) ≤ q → eachP D c q = 0)
theorem rX.fr {h g : zHp} {D : Nat → Int} (hr : rX h D) (hfr : zFr 51 h g) : rX g D := by
  unfold rX at hr ⊢
  rw [hfr 24 (by decide), hfr 25 (by decide), hfr 26 (by decide), hfr 27 (by decide)]
  exact hr
theorem popc_one : ∀ s, s < 256 → popc s ≤ 1 → s = 0 ∨ (List.range 8).any (fun a => s == 2 ^ a) = true := by decide +kernel
theorem popc_p2 {s : Nat} (hs : s < 256) (h : popc s ≤ 1) : s = 0 ∨ ∃ a, s = 2 ^ a := by
  rcases popc_one s hs h with e | e
  · exact Or.inl e
  · obtain ⟨a, -, ha⟩ := List.any_eq_true.mp e
    exact Or.inr ⟨a, by simpa using ha⟩
theorem pick_only {p : Nat → Bool} {a : Nat} (h : ∀ k, p k = true → k = a) (n : Nat) : pickN p n = if a < n ∧ p a = true then 2 ^ a else 0 := by
  apply Nat.eq_of_testBit_eq
  intro k
  rw [pickN_bit]
  by_cases e : p k = true
  · have := h k e
    subst this
    by_cases z : k < n
    · rw [if_pos ⟨z, e⟩]; simp [z, e, Nat.testBit_two_pow]
    · rw [if_neg (fun q => z q.1)]; simp [z]
  · split
    · next q =>
      have : ¬ a = k := fun q2 => e (q2 ▸ q.2)
      simp [e, Nat.testBit_two_pow, this]
    · simp [e]
theorem tb_p2 {a k : Nat} (h : (2 ^ a).testBit k = true) : k = a := by
  rw [Nat.testBit_two_pow] at h
  simpa using (of_decide_eq_true h).symm
theorem pairF_one (D w : Nat → Int) (a : Nat) : ∀ r k, pairF D w (2 ^ a) r k = 2 ^ a := by
  intro r
  induction r with
  | zero => intro k; rfl
  | succ r ih =>
    intro k
    rw [pairF]
    split
    · next q => rw [tb_p2 q.1]
    · exact ih (k + 1)
theorem siftOf_one {D w : Nat → Int} (hb : dB D) (hvb : vB D w) (V : Int) {set c : Nat} (hc : c < 4) (hset : set < 2 ^ nN D) (h1 : popc set ≤ 1) : siftOf D w V set c = set := by
  rcases popc_p2 (p2_256 hb hset) h1 with e | ⟨a, e⟩
  · subst e; rfl
  · have ha : a < nN D := by
      rw [e] at hset
      exact (Nat.pow_lt_pow_iff_right (by omega)).mp hset
    have ht : set.testBit a = true := by rw [e, Nat.testBit_two_pow_self]
    have h0 : ¬ set = 0 := by
      intro q
      rw [q] at ht
      simp at ht
    unfold siftOf
    rw [if_neg h0]
    split
    · exact runF_stop D w V 8 set h1
    · split
      · rw [e]; exact pairF_one D w a _ _
      · split
        · unfold barOf
          rw [pick_only (a := a) (fun k hk => by
            unfold barP at hk
            rw [e] at hk
            simp only [Bool.and_eq_true] at hk
            exact tb_p2 hk.1)]
          by_cases z : a < nN D ∧ barP D w V set (D (245 + c)) a = true
          · rw [if_pos z, e]; split <;> rfl
          · rw [if_neg z, if_pos rfl]
        · unfold greatOf
          have hcn : 0 ≤ cntP D w set c a := by
            unfold cntP
            rw [if_pos ht]
            exact (ptl_b hb hvb hc set a (nS D) (Nat.le_refl _)).1
          have hbe : ∀ n, a < n → bestN (cntP D w set c) set n = cntP D w set c a ∧ True := by
            intro n
            induction n with
            | zero => intro q; omega
            | succ n ih =>
              intro q
              rw [bestN]
              by_cases z : a = n
              · subst z
                rw [if_pos ht]
                have : ∀ m, m ≤ a → bestN (cntP D w set c) set m = -1 := by
                  intro m
                  induction m with
                  | zero => intro _; rfl
                  | succ m ihm =>
                    intro hm
                    rw [bestN, if_neg (fun q => by rw [e] at q; have := tb_p2 q; omega)]
                    exact ihm (by omega)
                rw [this a (Nat.le_refl _)]
                exact ⟨by omega, trivial⟩
              · rw [if_neg (fun q => by rw [e] at q; have := tb_p2 q; omega)]
                exact ih (by omega)
          rw [pick_only (a := a) (fun k hk => by
            unfold grtP at hk
            simp only [Bool.and_eq_true] at hk
            have q := hk.1
            rw [e] at q
            exact tb_p2 q), if_pos ⟨ha, by unfold grtP; rw [ht, (hbe (nN D) ha).1]; simp⟩, e]
theorem lft_stay {D w : Nat → Int} (hb : dB D) (hvb : vB D w) (V : Int) {set : Nat} (hset : set < 2 ^ nN D) {k : Nat} (h1 : popc (lftOf D w V set k) ≤ 1) : ∀ n, k ≤ n → n ≤ 4 → lftOf D w V set n = lftOf D w V set k := by
  intro n
  induction n with
  | zero => intro h2 _; rw [show k = 0 by omega]
  | succ n ih =>
    intro h2 h3
    by_cases e : k = n + 1
    · rw [e]
    · have := ih (by omega) (by omega)
      rw [lftOf, this, siftOf_one hb hvb V (by omega) (lftOf_lt hset k) h1]
