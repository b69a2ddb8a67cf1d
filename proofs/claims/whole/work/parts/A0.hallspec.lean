-- how a hall is read: what must come of a text (written by wip/tools/specZ0.py)
abbrev Rh : Type := (Int × Nat) ⊕ (Nat × (Nat → Int) × (Nat → Int) × Int)
abbrev isK (B : Nat → Int) (L q j : Nat) : Prop := tkK B L q = 1 ∧ tkW B L q = kC j
noncomputable def rowF (B : Nat → Int) (L N : Nat) (W : Nat → Int) (b : Nat) (ht : Int) : Nat → Nat → Nat → (Nat → Int) → Nat → Rh
  | 0, _, _, _, _ => .inl (1, 0)
  | f + 1, i, sn, D, q => if tkK B L q = 3 ∧ 0 < i then (if i = N then .inr (tkE B L q, D, W, ht) else .inl (8, tkA B L q)) else
    @ite _ (nmQ B L q) (Classical.propDecidable _) (if fdF W (tkW B L q) N 0 = -1 then .inl (3, tkA B L q) else if sn.testBit (fdF W (tkW B L q) N 0).toNat then .inl (5, tkA B L q) else rowF B L N W b ht f (i + 1) (sn ||| 2 ^ (fdF W (tkW B L q) N 0).toNat) (up D (b + i) (fdF W (tkW B L q) N 0)) (tkE B L q)) (.inl (fK (tkK B L q) 2, tkA B L q))
def sgF (B : Nat → Int) (L q : Nat) (D W : Nat → Int) (ht : Int) : Rh := if sgK B L q = 0 then .inr (tkE B L q, D, W, ht) else .inl (sgK B L q, tkA B L q)
def coF (B : Nat → Int) (L k q : Nat) (D W : Nat → Int) (ht : Int) : Rh := if isK B L q 2 then (if nuK B L (tkE B L q) 0 99 = 0 then sgF B L (tkE B L (tkE B L q)) (up D (3 + k) (tkV B L (tkE B L q))) W ht else .inl (nuK B L (tkE B L q) 0 99, tkA B L (tkE B L q))) else sgF B L q D W ht
def poF (B : Nat → Int) (L k q : Nat) (D W : Nat → Int) (ht : Int) : Rh := if isK B L q 1 then coF B L k (tkE B L q) (up (up D 2 (D 2)) (3 + k) 1) W ht else coF B L k q (up (up D 2 (zor (D 2) (zshl 1 k))) (3 + k) 1) W ht
noncomputable def nameF (B : Nat → Int) (L q : Nat) (D W : Nat → Int) (ht : Int) : Rh := if 0 < D 1 ∨ ht = 1 then .inl (7, tkA B L q) else
  @ite _ (nmQ B L (tkE B L q)) (Classical.propDecidable _) (if fdF W (tkW B L (tkE B L q)) (nN D) 0 = -1 then (if D 0 = 8 then .inl (6, tkA B L (tkE B L q)) else poF B L (nN D) (tkE B L (tkE B L q)) (up D 0 (D 0 + 1)) (up W (nN D) (tkW B L (tkE B L q))) ht) else .inl (3, tkA B L (tkE B L q))) (.inl (fK (tkK B L (tkE B L q)) 2, tkA B L (tkE B L q)))
def soF (B : Nat → Int) (L s : Nat) (W : Nat → Int) (ht : Int) : Nat → Int → Int → Nat → (Nat → Int) → Rh
  | 0, _, _, _, _ => .inl (1, 0)
  | f + 1, o, c, q, D => if isK B L q 5 then .inr (tkE B L q, D, W, ht) else if isK B L q 4 then (if o = 1 then .inl (5, tkA B L q) else if nuK B L (tkE B L q) 0 99 = 0 then soF B L s W ht f 1 c (tkE B L (tkE B L q)) (up D (40 + s) (tkV B L (tkE B L q))) else .inl (nuK B L (tkE B L q) 0 99, tkA B L (tkE B L q)))
    else if isK B L q 2 then (if c = 1 then .inl (5, tkA B L q) else if nuK B L (tkE B L q) 0 99 = 0 then soF B L s W ht f o 1 (tkE B L (tkE B L q)) (up D (60 + s) (tkV B L (tkE B L q))) else .inl (nuK B L (tkE B L q) 0 99, tkA B L (tkE B L q))) else .inl (fK (tkK B L q) 2, tkA B L q)
def bnd (R : Rh) (f : Nat × (Nat → Int) × (Nat → Int) × Int → Rh) : Rh := match R with
  | .inl e => .inl e
  | .inr s => f s
noncomputable def sortF (B : Nat → Int) (L q : Nat) (D W : Nat → Int) (ht : Int) : Rh := if D 1 = 20 then .inl (6, tkA B L q) else if nuK B L (tkE B L q) 0 99 = 0 then
  bnd (soF B L (nS D) W ht 3 0 0 (tkE B L (tkE B L q)) (up (up (up D (20 + nS D) (tkV B L (tkE B L q))) (40 + nS D) 0) (60 + nS D) 1)) (fun s => bnd (rowF B L (nN D) W (80 + 8 * nS D) ht 9 0 0 s.2.1 s.1) (fun t => .inr (t.1, up t.2.1 1 (t.2.1 1 + 1), W, ht)))
  else .inl (nuK B L (tkE B L q) 0 99, tkA B L (tkE B L q))
def tieF (D : Nat → Int) : Nat → Nat → Int
  | 0 => D
  | n + 1 => up (tieF D n) (11 + (D (290 + n)).toNat) (n : Int)
noncomputable def tiesF (B : Nat → Int) (L q : Nat) (D W : Nat → Int) (ht : Int) : Rh := if ht = 1 then .inl (5, tkA B L q) else bnd (rowF B L (nN D) W 290 1 9 0 0 D (tkE B L q)) (fun t => .inr (t.1, tieF t.2.1 (nN D), W, 1))
noncomputable def hallF (B : Nat → Int) (L : Nat) : Nat → Nat → (Nat → Int) → (Nat → Int) → Int → Rh
  | 0, _, _, _, _ => .inl (1, 0)
  | f + 1, q, D, W, ht => if tkK B L q = 0 then .inr (q, D, W, ht) else bnd (if isK B L q 0 then nameF B L q D W ht else if isK B L q 3 then sortF B L q D W ht else if isK B L q 6 then tiesF B L q D W ht else .inl (fK (tkK B L q) 2, tkA B L q)) (fun s => hallF B L f s.1 s.2.1 s.2.2.1 s.2.2.2)
def dN (D : Nat → Int) : Prop := (0 ≤ D 0 ∧ D 0 ≤ 8) ∧ (0 ≤ D 1 ∧ D 1 ≤ 20)
theorem dN.up {D : Nat → Int} (H : dN D) {i : Nat} (hi : 2 ≤ i) (v : Int) : dN (up D i v) := by
  unfold dN at H ⊢
  rw [up_ne (by omega), up_ne (by omega)]
  exact H
-- bits of a set, counted
theorem sb_all {sn : Nat} : ∀ N : Nat, sumN (bv sn) N ≤ N ∧ (sumN (bv sn) N = N → ∀ k : Nat, k < N → sn.testBit k = true) := by
  intro N
  induction N with
  | zero => exact ⟨by show (0 : Int) ≤ 0; omega, fun _ k hk => by omega⟩
  | succ N ih =>
    rw [sumN]
    rcases bv_01 sn N with e | e
    · rw [e]
      exact ⟨by omega, fun z => by omega⟩
    · rw [e]
      refine ⟨by omega, fun z k hk => ?_⟩
      by_cases c : k = N
      · rw [c]
        unfold bv at e
        by_cases t : sn.testBit N = true
        · exact t
        · rw [if_neg t] at e; omega
      · exact ih.2 (by omega) k (by omega)
theorem sb_bit {sn k m : Nat} : (sn ||| 2 ^ k).testBit m = (sn.testBit m || decide (k = m)) := by rw [Nat.testBit_or, Nat.testBit_two_pow]
theorem sb_add {sn k : Nat} (hk : ¬ sn.testBit k = true) : ∀ N : Nat, sumN (bv (sn ||| 2 ^ k)) N = sumN (bv sn) N + (if k < N then 1 else 0) := by
  intro N
  induction N with
  | zero => rfl
  | succ N ih =>
    rw [sumN, sumN, ih]
    by_cases c : k = N
    · subst c
      have e1 : bv (sn ||| 2 ^ k) k = 1 := if_pos (by rw [sb_bit]; simp)
      have e2 : bv sn k = 0 := if_neg hk
      rw [e1, e2, if_neg (by omega), if_pos (by omega)]
    · have e1 : bv (sn ||| 2 ^ k) N = bv sn N := by unfold bv; rw [sb_bit]; simp [c]
      rw [e1]
      by_cases d : k < N
      · rw [if_pos d, if_pos (by omega)]; omega
      · rw [if_neg d, if_neg (by omega)]; omega
theorem zor0 {x : Int} (h : z32 x) : zor x 0 = x := by
  unfold zor
  rw [show Int32.ofInt 0 = 0 from rfl, Int32.or_zero]
  exact Int32.toInt_ofInt_of_le h.1 (by have := h.2; omega)
theorem b01T {P : Prop} (h : ¬ b01 P = 0) : P := by
  by_cases z : P
  · exact z
  · exact absurd (b01_f z) h
theorem b01F {P : Prop} (h : b01 P = 0) : ¬ P := fun z => by rw [b01_t z] at h; omega
section
variable {B : Nat → Int} {L N : Nat} {W : Nat → Int} {b : Nat} {ht : Int} {f i sn : Nat} {D : Nat → Int} {q : Nat}
theorem rowF_e (h : tkK B L q = 3 ∧ 0 < i) (h2 : i = N) : rowF B L N W b ht (f + 1) i sn D q = .inr (tkE B L q, D, W, ht) := by rw [rowF, if_pos h, if_pos h2]
theorem rowF_8 (h : tkK B L q = 3 ∧ 0 < i) (h2 : ¬ i = N) : rowF B L N W b ht (f + 1) i sn D q = .inl (8, tkA B L q) := by rw [rowF, if_pos h, if_neg h2]
theorem rowF_2 (h : ¬ (tkK B L q = 3 ∧ 0 < i)) (h2 : ¬ nmQ B L q) : rowF B L N W b ht (f + 1) i sn D q = .inl (fK (tkK B L q) 2, tkA B L q) := by rw [rowF, if_neg h, if_neg h2]
theorem nmQ.k {B : Nat → Int} {L q : Nat} (h : nmQ B L q) : tkK B L q = 1 := h.1
theorem rowF_3 (h2 : nmQ B L q) (h3 : fdF W (tkW B L q) N 0 = -1) : rowF B L N W b ht (f + 1) i sn D q = .inl (3, tkA B L q) := by rw [rowF, if_neg (by have := h2.k; omega), if_pos h2, if_pos h3]
theorem rowF_5 {k : Nat} (h2 : nmQ B L q) (h3 : fdF W (tkW B L q) N 0 = (k : Int)) (h4 : sn.testBit k = true) : rowF B L N W b ht (f + 1) i sn D q = .inl (5, tkA B L q) := by rw [rowF, if_neg (by have := h2.k; omega), if_pos h2, if_neg (by omega), h3, Int.toNat_natCast, if_pos h4]
theorem rowF_g {k : Nat} (h2 : nmQ B L q) (h3 : fdF W (tkW B L q) N 0 = (k : Int)) (h4 : ¬ sn.testBit k = true) : rowF B L N W b ht (f + 1) i sn D q = rowF B L N W b ht f (i + 1) (sn ||| 2 ^ k) (up D (b + i) (k : Int)) (tkE B L q) := by rw [rowF, if_neg (by have := h2.k; omega), if_pos h2, if_neg (by omega), h3, Int.toNat_natCast, if_neg h4]
end
