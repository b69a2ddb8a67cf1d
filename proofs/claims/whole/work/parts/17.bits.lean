-- bits; the first rows are pasted from kit/laws/BITS.to-paste (b_ext .. b_sshr, nx_and, nx_xor)
def bt (x : Int32) (i : Nat) : Bool := x.toBitVec.getLsbD i
theorem b_ext {x y : Int32} (h : ∀ i, i < 32 → bt x i = bt y i) : x = y := Int32.toBitVec_inj.mp (BitVec.eq_of_getLsbD_eq (fun i hi => h i hi))
theorem b_or (x y : Int32) (i : Nat) : bt (x ||| y) i = (bt x i || bt y i) := by unfold bt; rw [Int32.toBitVec_or, BitVec.getLsbD_or]
theorem b_and (x y : Int32) (i : Nat) : bt (x &&& y) i = (bt x i && bt y i) := by unfold bt; rw [Int32.toBitVec_and, BitVec.getLsbD_and]
theorem b_xor (x y : Int32) (i : Nat) : bt (x ^^^ y) i = (bt x i ^^ bt y i) := by unfold bt; rw [Int32.toBitVec_xor, BitVec.getLsbD_xor]
theorem b_big {x : Int32} {i : Nat} (h : 32 ≤ i) : bt x i = false := BitVec.getLsbD_of_ge _ _ h
theorem s_l : ∀ n, n < 32 → ((nI n &&& 31).toBitVec.smod 32).toNat = n := by decide +kernel
theorem b_shl (n : Nat) (hn : n < 32) (x : Int32) {i : Nat} (hi : i < 32) : bt (x <<< (nI n &&& 31)) i = (decide (n ≤ i) && bt x (i - n)) := by
  unfold bt
  rw [Int32.toBitVec_shiftLeft]
  show (x.toBitVec <<< ((nI n &&& 31).toBitVec.smod 32).toNat).getLsbD i = _
  rw [s_l n hn, BitVec.getLsbD_shiftLeft]
  rcases Nat.lt_or_ge i n with h | h
  · simp [h, Nat.not_le.mpr h]
  · simp [hi, h, Nat.not_lt.mpr h]
theorem b_sshr (n : Nat) (hn : n < 32) (x : Int32) {i : Nat} (hi : i < 32) : bt (x >>> (nI n &&& 31)) i = if n + i < 32 then bt x (n + i) else bt x 31 := by
  unfold bt
  rw [Int32.toBitVec_shiftRight]
  show (x.toBitVec.sshiftRight ((nI n &&& 31).toBitVec.smod 32).toNat).getLsbD i = _
  rw [s_l n hn, BitVec.getLsbD_sshiftRight, BitVec.msb_eq_getLsbD_last]
  simp [hi]
theorem nx_and (a b : Nat) : nI a &&& nI b = nI (a &&& b) := by
  apply Int32.toBitVec_inj.1
  show BitVec.ofNat 32 a &&& BitVec.ofNat 32 b = BitVec.ofNat 32 (a &&& b)
  apply BitVec.eq_of_getLsbD_eq
  intro i hi
  simp [hi]
theorem nx_xor (a b : Nat) : nI a ^^^ nI b = nI (a ^^^ b) := by
  apply Int32.toBitVec_inj.1
  show BitVec.ofNat 32 a ^^^ BitVec.ofNat 32 b = BitVec.ofNat 32 (a ^^^ b)
  apply BitVec.eq_of_getLsbD_eq
  intro i hi
  simp [hi]
theorem nx_or (a b : Nat) : nI a ||| nI b = nI (a ||| b) := by
  apply Int32.toBitVec_inj.1
  show BitVec.ofNat 32 a ||| BitVec.ofNat 32 b = BitVec.ofNat 32 (a ||| b)
  apply BitVec.eq_of_getLsbD_eq
  intro i hi
  simp [hi]
theorem kb_nI (n : Nat) : Int32.ofInt (n : Int) = nI n := rfl
theorem kb_ti {n : Nat} (h : n < 2147483648) : (nI n).toInt = (n : Int) := nI_toInt h
theorem kb_bt (n i : Nat) (hi : i < 32) : bt (nI n) i = n.testBit i := by
  show (BitVec.ofNat 32 n).getLsbD i = n.testBit i
  rw [BitVec.getLsbD_ofNat]
  simp [hi]
theorem kb_and {a b : Nat} (ha : a < 2147483648) : zand (a : Int) (b : Int) = ((a &&& b : Nat) : Int) := by
  unfold zand
  rw [kb_nI, kb_nI, nx_and, kb_ti (Nat.lt_of_le_of_lt Nat.and_le_left ha)]
theorem kb_or {a b : Nat} (ha : a < 2147483648) (hb : b < 2147483648) : zor (a : Int) (b : Int) = ((a ||| b : Nat) : Int) := by
  unfold zor
  rw [kb_nI, kb_nI, nx_or, kb_ti (Nat.or_lt_two_pow (n := 31) ha hb)]
theorem kb_xor {a b : Nat} (ha : a < 2147483648) (hb : b < 2147483648) : zxor (a : Int) (b : Int) = ((a ^^^ b : Nat) : Int) := by
  unfold zxor
  rw [kb_nI, kb_nI, nx_xor, kb_ti (Nat.xor_lt_two_pow (n := 31) ha hb)]
theorem kb_shr {s k : Nat} (hs : s < 2147483648) (hk : k < 32) : zshr (s : Int) (k : Int) = ((s >>> k : Nat) : Int) := by
  unfold zshr
  have hle : s >>> k ≤ s := by rw [Nat.shiftRight_eq_div_pow]; exact Nat.div_le_self _ _
  rw [kb_nI, kb_nI, show nI s >>> (nI k &&& 31) = nI (s >>> k) from b_ext (fun i hi => ?_), kb_ti (by omega)]
  rw [b_sshr k hk _ hi, kb_bt _ _ hi, Nat.testBit_shiftRight]
  split
  · next h => rw [kb_bt _ _ h]
  · next h =>
    rw [kb_bt _ _ (by omega)]
    rw [Nat.testBit_lt_two_pow (i := 31) hs, Nat.testBit_lt_two_pow]
    exact Nat.lt_of_lt_of_le hs (Nat.pow_le_pow_right (n := 2) (by omega) (by omega) : 2 ^ 31 ≤ 2 ^ (k + i))
theorem kb_shl1 {k : Nat} (hk : k < 31) : zshl 1 (k : Int) = ((2 ^ k : Nat) : Int) := by
  have h : ∀ k, k < 31 → (Int32.ofInt 1 <<< (nI k &&& 31)).toInt = ((2 ^ k : Nat) : Int) := by decide +kernel
  exact h k hk
theorem kb_bit {s k : Nat} (hs : s < 2147483648) (hk : k < 32) : zand (zshr (s : Int) (k : Int)) 1 = if s.testBit k then 1 else 0 := by
  have hle : s >>> k ≤ s := by rw [Nat.shiftRight_eq_div_pow]; exact Nat.div_le_self _ _
  rw [kb_shr hs hk, show (1 : Int) = ((1 : Nat) : Int) from rfl, kb_and (by omega), Nat.testBit_eq_decide_div_mod_eq, Nat.and_one_is_mod, Nat.shiftRight_eq_div_pow]
  have : s / 2 ^ k % 2 = 0 ∨ s / 2 ^ k % 2 = 1 := by omega
  rcases this with h | h <;> simp [h]
theorem kb_not {x : Int} (hx : z32 x) : zxor x (-1) = -x - 1 := by
  unfold zxor
  have e : Int32.ofInt x ^^^ Int32.ofInt (-1) = Int32.ofInt (-x - 1) := by
    rw [show Int32.ofInt (-1) = -1 from rfl, Int32.ofInt_sub, Int32.ofInt_neg, show Int32.ofInt 1 = 1 from rfl]
    apply Int32.toBitVec_inj.1
    rw [Int32.toBitVec_xor, show (-1 : Int32).toBitVec = BitVec.allOnes 32 from rfl, BitVec.xor_allOnes, Int32.toBitVec_sub, Int32.toBitVec_neg, BitVec.neg_eq_not_add]
    exact (BitVec.add_sub_cancel _ _).symm
  rw [e, z32_ti]
  unfold z32 at hx ⊢
  omega
theorem kb_m1 : ∀ i, i < 32 → bt (Int32.ofInt (-1)) i = true := by decide +kernel
theorem kb_andn {a b : Nat} (ha : a < 2147483648) : zand (a : Int) (zxor (b : Int) (-1)) = ((a ^^^ (a &&& b) : Nat) : Int) := by
  unfold zand zxor
  have hlt : a ^^^ (a &&& b) < 2147483648 := Nat.xor_lt_two_pow (n := 31) ha (Nat.lt_of_le_of_lt Nat.and_le_left ha)
  rw [Int32.ofInt_toInt, kb_nI, kb_nI, show nI a &&& (nI b ^^^ Int32.ofInt (-1)) = nI (a ^^^ (a &&& b)) from b_ext (fun i hi => ?_), kb_ti hlt]
  rw [b_and, b_xor, kb_m1 i hi, kb_bt _ _ hi, kb_bt _ _ hi, kb_bt _ _ hi, Nat.testBit_xor, Nat.testBit_and]
  cases a.testBit i <;> cases b.testBit i <;> rfl
