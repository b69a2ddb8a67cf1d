-- orders: places of names, and what stands ahead of them
def oD (D : Nat → Int) (s k : Nat) : Nat := (D (80 + 8 * s + k)).toNat
/-- P tells the place of each name in each order -/
def pB (D : Nat → Int) (P : Nat → Nat → Nat) : Prop := ∀ s k : Nat, s < nS D → k < nN D → P s k < nN D ∧ oD D s (P s k) = k ∧ P s (oD D s k) = k
def cntTo (D : Nat → Int) (s set : Nat) (n : Nat) : Int := sumN (fun j => bv set (oD D s j)) n
theorem oD_lt {D : Nat → Int} (hb : dB D) {s k : Nat} (hs : s < nS D) (hk : k < nN D) : oD D s k < nN D ∧ D (80 + 8 * s + k) = (oD D s k : Int) := by
  have h1 := hb.2.2.2.1 s k hs hk
  have h2 := nN_eq hb
  unfold oD
  omega
theorem oD_inj {D : Nat → Int} {P : Nat → Nat → Nat} (hp : pB D P) {s j k : Nat} (hs : s < nS D) (hj : j < nN D) (hk : k < nN D) (h : oD D s j = oD D s k) : j = k := by
  have h1 := (hp s j hs hj).2.2
  have h2 := (hp s k hs hk).2.2
  rw [h] at h1
  omega
theorem plcF_cnt {D : Nat → Int} {P : Nat → Nat → Nat} (hb : dB D) (hp : pB D P) {s : Nat} (hs : s < nS D) {k : Nat} (hk : k < nN D) (set : Nat) : ∀ (r i : Nat), i + r = nN D → i ≤ P s k → cntTo D s set i + plcF D s k set r i = cntTo D s set (P s k) := by
  intro r
  induction r with
  | zero =>
    intro i hi hle
    have := (hp s k hs hk).1
    omega
  | succ r ih =>
    intro i hi hle
    have h1 := oD_lt hb hs (show i < nN D by omega)
    have h2 := hp s k hs hk
    rw [plcF]
    by_cases e : i = P s k
    · rw [if_pos (by rw [h1.2, e, h2.2.1]), Int.add_zero, e]
    · have hne : ¬ D (80 + 8 * s + i) = (k : Int) := fun q => by
        rw [h1.2] at q
        have q2 : oD D s i = k := by omega
        have q3 := (hp s i hs (by omega)).2.2
        rw [q2] at q3
        omega
      rw [if_neg hne, ← Int.add_assoc]
      exact ih (i + 1) (by omega) (by omega)
theorem plc_cnt {D : Nat → Int} {P : Nat → Nat → Nat} (hb : dB D) (hp : pB D P) {s : Nat} (hs : s < nS D) {k : Nat} (hk : k < nN D) (set : Nat) : plc D s k set = cntTo D s set (P s k) := by
  have h := plcF_cnt hb hp hs hk set (nN D) 0 (Nat.zero_add _) (by omega)
  have e : cntTo D s set 0 = 0 := rfl
  unfold plc
  omega
theorem cntTo_0 (D : Nat → Int) (s set : Nat) : ∀ n, cntTo D s set n = 0 ↔ ∀ j, j < n → set.testBit (oD D s j) = false := by
  intro n
  induction n with
  | zero => simp [cntTo, sumN]
  | succ n ih =>
    have h1 : cntTo D s set (n + 1) = cntTo D s set n + bv set (oD D s n) := rfl
    have h2 := sumN_b (f := fun j => bv set (oD D s j)) (lo := 0) (hi := 1) n (fun k _ => by rcases bv_01 set (oD D s k) with e | e <;> simp [e])
    have h3 : 0 ≤ cntTo D s set n := by unfold cntTo; omega
    constructor
    · intro h j hj
      have h4 : cntTo D s set n = 0 ∧ bv set (oD D s n) = 0 := by rcases bv_01 set (oD D s n) with e | e <;> omega
      by_cases e : j = n
      · subst e
        have := h4.2
        unfold bv at this
        cases q : set.testBit (oD D s j) with
        | false => rfl
        | true => rw [q] at this; simp at this
      · exact ih.mp h4.1 j (by omega)
    · intro h
      have h4 := ih.mpr (fun j hj => h j (by omega))
      have h5 : bv set (oD D s n) = 0 := by unfold bv; rw [h n (by omega)]; rfl
      omega
theorem cntTo_mono (D : Nat → Int) (s set : Nat) {m n : Nat} (h : m ≤ n) : cntTo D s set m ≤ cntTo D s set n := by
  induction n with
  | zero => have : m = 0 := by omega
            rw [this]; exact Int.le_refl _
  | succ n ih =>
    have h1 : cntTo D s set (n + 1) = cntTo D s set n + bv set (oD D s n) := rfl
    by_cases e : m = n + 1
    · rw [e]; exact Int.le_refl _
    · have := ih (by omega)
      rcases bv_01 set (oD D s n) with q | q <;> omega
theorem cntTo_b (D : Nat → Int) (s set n : Nat) : 0 ≤ cntTo D s set n ∧ cntTo D s set n ≤ n := by
  have h2 := sumN_b (f := fun j => bv set (oD D s j)) (lo := 0) (hi := 1) n (fun k _ => by rcases bv_01 set (oD D s k) with e | e <;> simp [e])
  unfold cntTo
  omega
theorem pair_bit (a b k : Nat) : (2 ^ a ||| 2 ^ b).testBit k = (decide (a = k) || decide (b = k)) := by
  rw [Nat.testBit_or, Nat.testBit_two_pow, Nat.testBit_two_pow]
theorem plc_pair {D : Nat → Int} {P : Nat → Nat → Nat} (hb : dB D) (hp : pB D P) {s : Nat} (hs : s < nS D) {a b : Nat} (ha : a < nN D) (hbb : b < nN D) (hab : ¬ a = b) : plc D s a (2 ^ a ||| 2 ^ b) = 0 ↔ P s a < P s b := by
  rw [plc_cnt hb hp hs ha, cntTo_0]
  have h1 := hp s a hs ha
  have h2 := hp s b hs hbb
  constructor
  · intro h
    rcases Nat.lt_or_ge (P s a) (P s b) with q | q
    · exact q
    · have hne : ¬ P s a = P s b := fun e => hab (by rw [← h1.2.1, ← h2.2.1, e])
      have h3 := h (P s b) (by omega)
      rw [h2.2.1, pair_bit] at h3
      simp at h3
  · intro h j hj
    rw [pair_bit]
    have h3 : ¬ a = oD D s j := fun e => by
      have := (hp s j hs (by omega)).2.2
      rw [← e] at this
      omega
    have h4 : ¬ b = oD D s j := fun e => by
      have := (hp s j hs (by omega)).2.2
      rw [← e] at this
      omega
    simp [h3, h4]
/-- what the class's hall (cells 4 to 13) holds, as far as counting needs it -/
def hX (h : zHp) (D : Nat → Int) (P : Nat → Nat → Nat) : Prop := h 4 0 = D 0 ∧ h 4 7 = D 1 ∧ (∀ s k : Nat, s < nS D → k < nN D → h 12 (8 * s + k) = D (80 + 8 * s + k) ∧ h 13 (8 * s + k) = (P s k : Int)) ∧ (∀ k : Nat, k < nN D → 0 ≤ h 7 k ∧ h 7 k < D 0 ∧ D (11 + (h 7 k).toNat) = (k : Int) ∧ h 7 (D (11 + k)).toNat = (k : Int))
