-- what the counting is, over the numbers D of a hall and a rule as the reference lays them out: D 0 names, D 1 sorts, D 2 who stands, 3.. costs, 11.. places in ties, 20.. in, 40.. out, 60.. prices, 80 + 8 s + k orders, 240 clauses, 241.. kinds, 245.. numbers, 249.. how many points, 253 + 8 c + i points
def nN (D : Nat → Int) : Nat := (D 0).toNat
def nS (D : Nat → Int) : Nat := (D 1).toNat
def sumN (f : Nat → Int) : Nat → Int
  | 0 => 0
  | n + 1 => sumN f n + f n
def bv (set k : Nat) : Int := if set.testBit k then 1 else 0
def plcF (D : Nat → Int) (s : Nat) (name : Int) (set : Nat) : Nat → Nat → Int
  | 0, _ => 0
  | r + 1, k => if D (80 + 8 * s + k) = name then 0 else bv set (D (80 + 8 * s + k)).toNat + plcF D s name set r (k + 1)
def plc (D : Nat → Int) (s : Nat) (name : Int) (set : Nat) : Int := plcF D s name set (nN D) 0
def fstOf (D v : Nat → Int) (name : Int) (set : Nat) : Int := sumN (fun s => if plc D s name set = 0 then v s else 0) (nS D)
def moreOf (D v : Nat → Int) (a b : Nat) : Int := sumN (fun s => if plc D s a (2 ^ a ||| 2 ^ b) = 0 then v s else - v s) (nS D)
/-- the numbers keep their bounds -/
def dB (D : Nat → Int) : Prop := (0 ≤ D 0 ∧ D 0 ≤ 8) ∧ (0 ≤ D 1 ∧ D 1 ≤ 20) ∧ (0 ≤ D 2 ∧ D 2 < 256) ∧ (∀ s k : Nat, s < nS D → k < nN D → 0 ≤ D (80 + 8 * s + k) ∧ D (80 + 8 * s + k) < D 0) ∧ (∀ s : Nat, s < nS D → 0 ≤ D (20 + s) ∧ 0 ≤ D (40 + s) ∧ D (20 + s) + D (40 + s) ≤ 198 ∧ 0 ≤ D (60 + s) ∧ D (60 + s) ≤ 99) ∧ (∀ k : Nat, k < nN D → 0 ≤ D (3 + k) ∧ D (3 + k) ≤ 99 ∧ 0 ≤ D (11 + k) ∧ D (11 + k) < D 0) ∧ (0 ≤ D 240 ∧ D 240 ≤ 4) ∧ (∀ c : Nat, c < 4 → 0 ≤ D (241 + c) ∧ D (241 + c) ≤ 5 ∧ 0 ≤ D (245 + c) ∧ D (245 + c) ≤ 99 ∧ 0 ≤ D (249 + c) ∧ D (249 + c) ≤ 8 ∧ ∀ i : Nat, i < 8 → 0 ≤ D (253 + 8 * c + i) ∧ D (253 + 8 * c + i) ≤ 99)
def vB (D v : Nat → Int) : Prop := ∀ s : Nat, s < nS D → 0 ≤ v s ∧ v s ≤ 198
theorem bv_01 (set k : Nat) : bv set k = 0 ∨ bv set k = 1 := by unfold bv; split <;> simp
theorem sumN_b {f : Nat → Int} {lo hi : Int} (n : Nat) (h : ∀ k, k < n → lo ≤ f k ∧ f k ≤ hi) : lo * n ≤ sumN f n ∧ sumN f n ≤ hi * n := by
  induction n with
  | zero => simp [sumN]
  | succ n ih =>
    have h1 := ih (fun k hk => h k (by omega))
    have h2 := h n (by omega)
    simp only [sumN, Int.natCast_add, Int.natCast_one, Int.mul_add, Int.mul_one]
    omega
theorem plcF_b (D : Nat → Int) (s : Nat) (name : Int) (set : Nat) : ∀ r k, 0 ≤ plcF D s name set r k ∧ plcF D s name set r k ≤ r := by
  intro r
  induction r with
  | zero => intro k; simp [plcF]
  | succ r ih =>
    intro k
    have h1 := ih (k + 1)
    unfold plcF
    split
    · omega
    · rcases bv_01 set (D (80 + 8 * s + k)).toNat with e | e <;> rw [e] <;> omega
theorem kb_bv {s : Nat} {o : Int} (hs : s < 2147483648) (h0 : 0 ≤ o) (h1 : o < 32) : zand (zshr (s : Int) o) 1 = bv s o.toNat := by
  obtain ⟨k, rfl⟩ := Int.eq_ofNat_of_zero_le h0
  exact kb_bit hs (by omega)
