-- rows of changes of voters: their order, and what is the best of a set of them
def rk (x : Int) : Nat := if 0 < x then (2 * x - 1).toNat else (-2 * x).toNat
theorem rk_inj {x y : Int} (h : rk x = rk y) : x = y := by
  unfold rk at h
  split at h <;> split at h <;> omega
def absI (x : Int) : Int := if 0 ≤ x then x else -x
theorem absI_b (x : Int) : 0 ≤ absI x ∧ x ≤ absI x ∧ -x ≤ absI x ∧ (absI x = x ∨ absI x = -x) := by unfold absI; split <;> omega
theorem absI_rk (x : Int) : 2 * absI x - 1 ≤ (rk x : Int) ∧ (rk x : Int) ≤ 2 * absI x := by
  unfold absI rk
  split <;> split <;> omega
def totR (q : Nat → Int) : Nat → Int := sumN (fun s => absI (q s))
def cstR (D : Nat → Int) (q : Nat → Int) : Nat → Int := sumN (fun s => absI (q s) * D (60 + s))
theorem totR_s (q : Nat → Int) (n : Nat) : totR q (n + 1) = totR q n + absI (q n) := rfl
theorem cstR_s (D q : Nat → Int) (n : Nat) : cstR D q (n + 1) = cstR D q n + absI (q n) * D (60 + n) := rfl
theorem totR_mono (q : Nat → Int) {m n : Nat} (h : m ≤ n) : totR q m ≤ totR q n := by
  induction n with
  | zero => have : m = 0 := by omega
            rw [this]; exact Int.le_refl _
  | succ n ih =>
    by_cases e : m = n + 1
    · rw [e]; exact Int.le_refl _
    · have := ih (by omega)
      have := absI_b (q n)
      rw [totR_s]
      omega
theorem totR_nn (q : Nat → Int) (n : Nat) : 0 ≤ totR q n := totR_mono q (Nat.zero_le n)
theorem cstR_mono {D : Nat → Int} (hb : dB D) (q : Nat → Int) {m n : Nat} (hn : n ≤ nS D) (h : m ≤ n) : cstR D q m ≤ cstR D q n := by
  induction n with
  | zero => have : m = 0 := by omega
            rw [this]; exact Int.le_refl _
  | succ n ih =>
    by_cases e : m = n + 1
    · rw [e]; exact Int.le_refl _
    · have h1 := ih (by omega) (by omega)
      have h2 := Int.mul_nonneg (absI_b (q n)).1 (hb.2.2.2.2.1 n (by omega)).2.2.2.1
      rw [cstR_s]
      omega
theorem cstR_b {D : Nat → Int} (hb : dB D) (q : Nat → Int) : ∀ n, n ≤ nS D → cstR D q n ≤ 99 * totR q n := by
  intro n
  induction n with
  | zero => intro _; exact Int.le_refl _
  | succ n ih =>
    intro hn
    have h1 := ih (by omega)
    have h2 := Int.mul_le_mul_of_nonneg_left (hb.2.2.2.2.1 n (by omega)).2.2.2.2 (absI_b (q n)).1
    rw [cstR_s, totR_s]
    omega
theorem totR_cg {q p : Nat → Int} {n : Nat} (h : ∀ i, i < n → q i = p i) : totR q n = totR p n := sumN_congr n (fun k hk => by rw [h k hk])
theorem cstR_cg {D q p : Nat → Int} {n : Nat} (h : ∀ i, i < n → q i = p i) : cstR D q n = cstR D p n := sumN_congr n (fun k hk => by rw [h k hk])
def agr (s : Nat) (q p : Nat → Int) : Prop := ∀ i : Nat, i < s → q i = p i
def ltx (s : Nat) (q p : Nat → Int) : Prop := ∃ j : Nat, j < s ∧ (∀ i : Nat, i < j → q i = p i) ∧ rk (q j) < rk (p j)
theorem ltx_anti {s : Nat} {q p : Nat → Int} (h1 : ltx s q p) (h2 : ltx s p q) : False := by
  obtain ⟨i, -, a2, a3⟩ := h1
  obtain ⟨j, -, b2, b3⟩ := h2
  rcases Nat.lt_trichotomy i j with q1 | q1 | q1
  · rw [b2 i q1] at a3; omega
  · subst q1; omega
  · rw [a2 j q1] at b3; omega
theorem ltx_agr {s : Nat} {q p : Nat → Int} (h1 : ltx s q p) (h2 : agr s q p) : False := by
  obtain ⟨i, a1, -, a3⟩ := h1
  rw [h2 i a1] at a3
  omega
theorem ltx_s {s : Nat} {q p : Nat → Int} : ltx (s + 1) q p ↔ ltx s q p ∨ (agr s q p ∧ rk (q s) < rk (p s)) := by
  constructor
  · rintro ⟨j, h1, h2, h3⟩
    by_cases e : j = s
    · subst e; exact Or.inr ⟨h2, h3⟩
    · exact Or.inl ⟨j, by omega, h2, h3⟩
  · rintro (⟨j, h1, h2, h3⟩ | ⟨h1, h2⟩)
    · exact ⟨j, by omega, h2, h3⟩
    · exact ⟨s, by omega, h1, h2⟩
theorem agr_s {s : Nat} {q p : Nat → Int} : agr (s + 1) q p ↔ agr s q p ∧ q s = p s := by
  constructor
  · intro h; exact ⟨fun i hi => h i (by omega), h s (by omega)⟩
  · rintro ⟨h1, h2⟩ i hi
    by_cases e : i = s
    · subst e; exact h2
    · exact h1 i (by omega)
theorem ltx_up {s n : Nat} {q p r : Nat → Int} (hs : s ≤ n) (h : ltx s q p) (ha : agr s r p) : ltx n q r := by
  obtain ⟨j, h1, h2, h3⟩ := h
  exact ⟨j, by omega, fun i hi => by rw [h2 i hi, ha i (by omega)], by rw [ha j h1]; exact h3⟩
theorem ltx_fu {s : Nat} {q p : Nat → Int} {y : Int} : ltx s q (fu p s y) ↔ ltx s q p := by
  have e : ∀ i, i < s → fu p s y i = p i := fun i hi => if_neg (by omega)
  constructor
  · rintro ⟨j, h1, h2, h3⟩; exact ⟨j, h1, fun i hi => by rw [h2 i hi, e i (by omega)], by rw [e j h1] at h3; exact h3⟩
  · rintro ⟨j, h1, h2, h3⟩; exact ⟨j, h1, fun i hi => by rw [h2 i hi, e i (by omega)], by rw [e j h1]; exact h3⟩
theorem agr_fu {s : Nat} {q p : Nat → Int} {y : Int} : agr s q (fu p s y) ↔ agr s q p := by
  have e : ∀ i, i < s → fu p s y i = p i := fun i hi => if_neg (by omega)
  exact ⟨fun h i hi => by rw [h i hi, e i hi], fun h i hi => by rw [h i hi, e i hi]⟩
theorem fu_at (p : Nat → Int) (s : Nat) (y : Int) : fu p s y s = y := if_pos rfl
/-- the first key is at most, less than the second: number ahead of cost, or cost ahead of number -/
def kle (ch m1 c1 m2 c2 : Int) : Prop := (ch = 0 ∧ (m1 < m2 ∨ (m1 = m2 ∧ c1 ≤ c2))) ∨ (¬ ch = 0 ∧ (c1 < c2 ∨ (c1 = c2 ∧ m1 ≤ m2)))
def klt (ch m1 c1 m2 c2 : Int) : Prop := (ch = 0 ∧ (m1 < m2 ∨ (m1 = m2 ∧ c1 < c2))) ∨ (¬ ch = 0 ∧ (c1 < c2 ∨ (c1 = c2 ∧ m1 < m2)))
theorem kle_tr {ch m1 c1 m2 c2 m3 c3 : Int} (h : kle ch m1 c1 m2 c2) (hm : m2 ≤ m3) (hc : c2 ≤ c3) : kle ch m1 c1 m3 c3 := by unfold kle at *; omega
theorem kle_or {ch m1 c1 m2 c2 : Int} (h : kle ch m1 c1 m2 c2) : klt ch m1 c1 m2 c2 ∨ (m1 = m2 ∧ c1 = c2) := by unfold kle at h; unfold klt; omega
theorem klt_tr {ch m1 c1 m2 c2 m3 c3 : Int} (h : klt ch m1 c1 m2 c2) (h2 : klt ch m2 c2 m3 c3 ∨ (m2 = m3 ∧ c2 = c3)) : klt ch m1 c1 m3 c3 := by unfold klt at *; omega
theorem klt_no {ch m1 c1 m2 c2 : Int} (h : klt ch m1 c1 m2 c2) (h2 : klt ch m2 c2 m1 c1 ∨ (m2 = m1 ∧ c2 = c1)) : False := by unfold klt at *; omega
/-- number, cost and row are those of the best of P (n sorts) -/
def isB (D : Nat → Int) (n : Nat) (ch : Int) (P : (Nat → Int) → Prop) (bm bc : Int) (br : Nat → Int) : Prop :=
  (bm = -1 ∧ ∀ q, ¬ P q) ∨ (0 ≤ bm ∧ ∃ b, P b ∧ agr n b br ∧ bm = totR b n ∧ bc = cstR D b n ∧ ∀ q, P q → klt ch bm bc (totR q n) (cstR D q n) ∨ (bm = totR q n ∧ bc = cstR D q n ∧ (ltx n b q ∨ agr n b q)))
theorem isB_iff {D : Nat → Int} {n : Nat} {ch bm bc : Int} {P P' : (Nat → Int) → Prop} {br : Nat → Int} (h : ∀ q, P' q ↔ P q) (H : isB D n ch P bm bc br) : isB D n ch P' bm bc br := by
  rcases H with ⟨h1, h2⟩ | ⟨h1, b, h2, h3, h4, h5, h6⟩
  · exact Or.inl ⟨h1, fun q hq => h2 q ((h q).mp hq)⟩
  · exact Or.inr ⟨h1, b, (h b).mpr h2, h3, h4, h5, fun q hq => h6 q ((h q).mp hq)⟩
theorem isB_cg {D : Nat → Int} {n : Nat} {ch bm bc : Int} {P : (Nat → Int) → Prop} {br br' : Nat → Int} (h : ∀ i, i < n → br' i = br i) (H : isB D n ch P bm bc br) : isB D n ch P bm bc br' := by
  rcases H with H | ⟨h1, b, h2, h3, h4⟩
  · exact Or.inl H
  · exact Or.inr ⟨h1, b, h2, fun i hi => by rw [h3 i hi, h i hi], h4⟩
theorem isB_one {D : Nat → Int} {n : Nat} {ch m c m' c' : Int} {P : (Nat → Int) → Prop} {r r' : Nat → Int} (H : isB D n ch P m c r) (H' : isB D n ch P m' c' r') : m = m' ∧ (0 ≤ m → c = c' ∧ agr n r r') := by
  rcases H with ⟨h1, h2⟩ | ⟨h1, b, h2, h3, h4, h5, h6⟩
  · rcases H' with ⟨k1, k2⟩ | ⟨k1, b', k2, -⟩
    · exact ⟨by omega, fun z => by omega⟩
    · exact absurd k2 (h2 b')
  · rcases H' with ⟨k1, k2⟩ | ⟨k1, b', k2, k3, k4, k5, k6⟩
    · exact absurd h2 (k2 b)
    · have q1 := h6 b' k2
      have q2 := k6 b h2
      rw [← k4, ← k5] at q1
      rw [← h4, ← h5] at q2
      rcases q1 with q1 | ⟨a1, a2, a3⟩
      · exact (klt_no q1 (by rcases q2 with z | z; exact Or.inl z; exact Or.inr ⟨z.1, z.2.1⟩)).elim
      · rcases q2 with q2 | ⟨b1, b2, b3⟩
        · exact (klt_no q2 (Or.inr ⟨a1, a2⟩)).elim
        · refine ⟨a1, fun _ => ⟨a2, ?_⟩⟩
          rcases a3 with a3 | a3
          · rcases b3 with b3 | b3
            · exact (ltx_anti a3 b3).elim
            · exact (ltx_agr a3 (fun i hi => (b3 i hi).symm)).elim
          · intro i hi
            rw [← h3 i hi, a3 i hi, k3 i hi]
/-- more rows, none of which is better -/
theorem isB_skip {D : Nat → Int} {n : Nat} {ch bm bc : Int} {P P' : (Nat → Int) → Prop} {br : Nat → Int} (H : isB D n ch P bm bc br) (hP : ∀ q, P q → P' q) (hQ : ∀ q, P' q → P q ∨ (0 ≤ bm ∧ kle ch bm bc (totR q n) (cstR D q n) ∧ ∀ b, P b → totR b n = totR q n → cstR D b n = cstR D q n → ltx n b q)) : isB D n ch P' bm bc br := by
  rcases H with ⟨h1, h2⟩ | ⟨h1, b, h2, h3, h4, h5, h6⟩
  · refine Or.inl ⟨h1, fun q hq => ?_⟩
    rcases hQ q hq with z | z
    · exact h2 q z
    · omega
  · refine Or.inr ⟨h1, b, hP b h2, h3, h4, h5, fun q hq => ?_⟩
    rcases hQ q hq with z | ⟨-, z1, z2⟩
    · exact h6 q z
    · rcases kle_or z1 with y | y
      · exact Or.inl y
      · exact Or.inr ⟨y.1, y.2, Or.inl (z2 b h2 (by rw [← h4]; exact y.1) (by rw [← h5]; exact y.2))⟩
/-- a row that is better than what was best -/
theorem isB_take {D : Nat → Int} {n : Nat} {ch bm bc : Int} {P P' : (Nat → Int) → Prop} {br p : Nat → Int} (H : isB D n ch P bm bc br) (hp : P' p) (hQ : ∀ q, P' q → P q ∨ agr n p q) (hb : bm < 0 ∨ klt ch (totR p n) (cstR D p n) bm bc) : isB D n ch P' (totR p n) (cstR D p n) p := by
  refine Or.inr ⟨totR_nn p n, p, hp, fun i hi => rfl, rfl, rfl, fun q hq => ?_⟩
  rcases hQ q hq with z | z
  · left
    rcases H with ⟨h1, h2⟩ | ⟨h1, b, h2, h3, h4, h5, h6⟩
    · exact absurd z (h2 q)
    · have hk : klt ch (totR p n) (cstR D p n) bm bc := by
        rcases hb with y | y
        · omega
        · exact y
      refine klt_tr hk ?_
      rcases h6 q z with y | y
      · exact Or.inl y
      · exact Or.inr ⟨y.1, y.2.1⟩
  · exact Or.inr ⟨totR_cg z, cstR_cg z, Or.inr z⟩
