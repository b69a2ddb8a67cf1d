-- the class runs down (written by wip/tools/specX4.py)
theorem fst_excl {D : Nat → Int} {P : Nat → Nat → Nat} (hb : dB D) (hp : pB D P) {w : Nat → Int} (hvb : vB D w) {set a b : Nat} (ha : a < nN D) (hbb : b < nN D) (hab : ¬ a = b) (h1 : set.testBit a = true) (h2 : set.testBit b = true) {s : Nat} (hs : s < nS D) : fstS D w a set s + fstS D w b set s ≤ w s := by
  have hv := hvb s hs
  unfold fstS
  by_cases e1 : plc D s a set = 0
  · by_cases e2 : plc D s b set = 0
    · exfalso
      rw [plc_cnt hb hp hs ha, cntTo_0] at e1
      rw [plc_cnt hb hp hs hbb, cntTo_0] at e2
      have q1 := hp s a hs ha
      have q2 := hp s b hs hbb
      rcases Nat.lt_trichotomy (P s a) (P s b) with q | q | q
      · have := e2 _ q
        rw [q1.2.1, h1] at this
        cases this
      · exact hab (by rw [← q1.2.1, ← q2.2.1, q])
      · have := e1 _ q
        rw [q2.2.1, h2] at this
        cases this
    · rw [if_pos e1, if_neg e2]
      omega
  · rw [if_neg e1]
    split <;> omega
theorem sumN_add (f g : Nat → Int) (n : Nat) : sumN (fun k => f k + g k) n = sumN f n + sumN g n := by
  induction n with
  | zero => rfl
  | succ n ih => simp only [sumN, ih]; omega
theorem sumN_le {f g : Nat → Int} (n : Nat) (h : ∀ k, k < n → f k ≤ g k) : sumN f n ≤ sumN g n := by
  induction n with
  | zero => exact Int.le_refl _
  | succ n ih =>
    have h1 := ih (fun k hk => h k (by omega))
    have h2 := h n (by omega)
    simp only [sumN]
    omega
theorem maj_one {D : Nat → Int} {P : Nat → Nat → Nat} (hb : dB D) (hp : pB D P) {w : Nat → Int} (hvb : vB D w) {set a b : Nat} (ha : a < nN D) (hbb : b < nN D) (h1 : set.testBit a = true) (h2 : set.testBit b = true) (m1 : sumN w (nS D) < 2 * cntO D w set a) (m2 : sumN w (nS D) < 2 * cntO D w set b) : a = b := by
  rcases Decidable.em (a = b) with e | e
  · exact e
  · have q1 := sumN_add (fstS D w a set) (fstS D w b set) (nS D)
    have q2 := sumN_le (f := fun s => fstS D w a set s + fstS D w b set s) (g := w) (nS D) (fun s hs => fst_excl hb hp hvb ha hbb e h1 h2 hs)
    have q3 : cntO D w set a = sumN (fstS D w a set) (nS D) := rfl
    have q4 : cntO D w set b = sumN (fstS D w b set) (nS D) := rfl
    omega
theorem majF_of {c : Nat → Int} {V : Int} {set m : Nat} (hm : set.testBit m = true ∧ V < 2 * c m) : ∀ (r k : Nat), k ≤ m → m < k + r → (∀ j, j < k + r → set.testBit j = true → V < 2 * c j → j = m) → majF c V set r k = (m : Int) := by
  intro r
  induction r with
  | zero => intro k h1 h2; omega
  | succ r ih =>
    intro k h1 h2 h3
    rw [majF]
    split
    · next q => rw [h3 k (by omega) q.1 q.2]
    · next q => exact ih (k + 1) (by rcases Decidable.em (k = m) with e | e; (subst e; exact absurd hm q); omega) (by omega) (fun j hj => h3 j (by omega))
theorem majF_none {c : Nat → Int} {V : Int} {set : Nat} : ∀ (r k : Nat), (∀ j, j < k + r → set.testBit j = true → ¬ V < 2 * c j) → majF c V set r k = -1 := by
  intro r
  induction r with
  | zero => intro k _; rfl
  | succ r ih =>
    intro k h
    rw [majF, if_neg (fun q => h k (by omega) q.1 q.2)]
    exact ih (k + 1) (fun j hj => h j (by omega))
/-- the one to go out of those up to n -/
def isL (D c : Nat → Int) (set n : Nat) (l : Int) : Prop := 0 ≤ l ∧ l < n ∧ set.testBit l.toNat = true ∧ ∀ j : Nat, j < n → set.testBit j = true → c l.toNat < c j ∨ (c l.toNat = c j ∧ D (11 + j) ≤ D (11 + l.toNat))
theorem lstF_isL (D c : Nat → Int) (set : Nat) : ∀ (r k : Nat) (l : Int), (isL D c set k l ∨ (l = -1 ∧ ∀ j, j < k → set.testBit j = false)) → (isL D c set (k + r) (lstF D c set r k l) ∨ (lstF D c set r k l = -1 ∧ ∀ j, j < k + r → set.testBit j = false)) := by
  intro r
  induction r with
  | zero => intro k l h; exact h
  | succ r ih =>
    intro k l h
    rw [lstF, show k + (r + 1) = k + 1 + r by omega]
    apply ih
    split
    · next q =>
      left
      refine ⟨by omega, by omega, by simpa using q.1, fun j hj hs => ?_⟩
      rw [Int.toNat_natCast]
      by_cases e : j = k
      · subst e; right; exact ⟨rfl, Int.le_refl _⟩
      · rcases h with ⟨h1, h2, h3, h4⟩ | ⟨h1, h2⟩
        · have := h4 j (by omega) hs
          have := q.2
          omega
        · rw [h2 j (by omega)] at hs
          cases hs
    · next q =>
      rcases h with ⟨h1, h2, h3, h4⟩ | ⟨h1, h2⟩
      · left
        refine ⟨h1, by omega, h3, fun j hj hs => ?_⟩
        by_cases e : j = k
        · subst e
          by_cases z : c l.toNat < c j
          · exact Or.inl z
          · have z2 : ¬ (l < 0 ∨ c j < c l.toNat ∨ (c j = c l.toNat ∧ D (11 + l.toNat) < D (11 + j))) := fun q' => q ⟨hs, q'⟩
            right
            omega
        · exact h4 j (by omega) hs
      · right
        refine ⟨h1, fun j hj => ?_⟩
        by_cases e : j = k
        · subst e
          cases z : set.testBit j with
          | false => rfl
          | true => exact absurd ⟨z, Or.inl (by omega)⟩ q
        · exact h2 j (by omega)
theorem isL_one {D c : Nat → Int} {set n : Nat} (hin : ∀ a b : Nat, a < n → b < n → D (11 + a) = D (11 + b) → a = b) {l m : Int} (h1 : isL D c set n l) (h2 : isL D c set n m) : l = m := by
  obtain ⟨a1, a2, a3, a4⟩ := h1
  obtain ⟨b1, b2, b3, b4⟩ := h2
  have q1 := a4 m.toNat (by omega) b3
  have q2 := b4 l.toNat (by omega) a3
  have := hin l.toNat m.toNat (by omega) (by omega) (by omega)
  omega
theorem hX.tin {h : zHp} {D : Nat → Int} {P : Nat → Nat → Nat} (hx : hX h D P) : ∀ a b : Nat, a < nN D → b < nN D → D (11 + a) = D (11 + b) → a = b := by
  intro a b ha hb he
  have h1 := (hx.2.2.2 a ha).2.2.2
  have h2 := (hx.2.2.2 b hb).2.2.2
  rw [he] at h1
  omega
