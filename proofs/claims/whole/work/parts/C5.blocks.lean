-- blocks of steps, put together piece by piece
def rwE (g h : zHp) (j : Nat) : Prop := g 126 j = h 126 j ∧ g 127 j = h 127 j ∧ g 128 j = h 128 j ∧ g 129 j = h 129 j ∧ g 134 j = h 134 j
def ndE (g h : zHp) (i : Nat) : Prop := g 33 i = h 33 i ∧ g 34 i = h 34 i ∧ g 35 i = h 35 i ∧ g 36 i = h 36 i ∧ g 37 i = h 37 i ∧ g 38 i = h 38 i
theorem blk_le {h : zHp} : ∀ f d s t n m : Nat, blk h f d s t n m → s ≤ t ∧ n ≤ m := by
  intro f
  cases f with
  | zero => intro d s t n m H; have : s = t ∧ n = m := H; omega
  | succ f =>
    intro d s t n m H
    unfold blk at H
    rcases H with H | ⟨h1, h2, -⟩
    · omega
    · omega
theorem blk_cg2 {h g : zHp} : ∀ f d s t n m : Nat, (∀ j : Nat, s ≤ j → j < t → rwE g h j) → (∀ i : Nat, n ≤ i → i < m → ndE g h i) → blk h f d s t n m → blk g f d s t n m := by
  intro f
  induction f with
  | zero => intro d s t n m _ _ H; exact H
  | succ f ih =>
    intro d s t n m e1 e2 H
    unfold blk at H ⊢
    rcases H with H | ⟨h1, h2, h3, H⟩
    · exact Or.inl H
    · have a := e1 s (by omega) h1
      have b := e2 n (by omega) h2
      unfold rwE at a
      unfold ndE at b
      rw [a.1, a.2.1, a.2.2.1, a.2.2.2.1, a.2.2.2.2, b.1, b.2.1, b.2.2.1, b.2.2.2.1, b.2.2.2.2.1, b.2.2.2.2.2]
      refine Or.inr ⟨h1, h2, h3, ?_⟩
      rcases H with ⟨q1, q2, q3, q4, q5⟩ | ⟨q1, q2, q3, q4, q5, q6, q7, q8, q9, q10⟩ | ⟨q1, q2, q3, q4, q5, q6⟩ | ⟨q1, q2, q3, q4, d', s', e', w1, w2, w3, w4, w5, w6, w7, w8, w9, w10, w11⟩
      · exact Or.inl ⟨q1, q2, q3, q4, ih _ _ _ _ _ (fun j j1 j2 => e1 j (by omega) j2) (fun i i1 i2 => e2 i (by omega) i2) q5⟩
      · exact Or.inr (Or.inl ⟨q1, q2, q3, q4, q5, q6, q7, q8, q9, ih _ _ _ _ _ (fun j j1 j2 => e1 j (by omega) j2) (fun i i1 i2 => e2 i (by omega) i2) q10⟩)
      · exact Or.inr (Or.inr (Or.inl ⟨q1, q2, q3, q4, q5, ih _ _ _ _ _ (fun j j1 j2 => e1 j (by omega) j2) (fun i i1 i2 => e2 i (by omega) i2) q6⟩))
      · have c := e2 e' (by omega) w5
        unfold ndE at c
        refine Or.inr (Or.inr (Or.inr ⟨q1, q2, q3, q4, d', s', e', w1, w2, w3, w4, w5, w6, by rw [c.1]; exact w7, by rw [c.2.2.2.2.2]; exact w8, w9, ih _ _ _ _ _ (fun j j1 j2 => e1 j (by omega) (by omega)) (fun i i1 i2 => e2 i (by omega) (by omega)) w10, ih _ _ _ _ _ (fun j j1 j2 => e1 j (by omega) j2) (fun i i1 i2 => e2 i (by omega) i2) w11⟩))
theorem blk_fu {h : zHp} : ∀ f d s t n m : Nat, blk h f d s t n m → ∀ f2 : Nat, t - s ≤ f2 → blk h f2 d s t n m := by
  intro f
  induction f with
  | zero =>
    intro d s t n m H f2 _
    cases f2 with
    | zero => exact H
    | succ f2 => unfold blk; exact Or.inl H
  | succ f ih =>
    intro d s t n m H f2 hf
    unfold blk at H
    rcases H with H | ⟨h1, h2, h3, H⟩
    · cases f2 with
      | zero => exact H
      | succ f2 => unfold blk; exact Or.inl H
    · obtain ⟨f3, rfl⟩ : ∃ f3, f2 = f3 + 1 := ⟨f2 - 1, by omega⟩
      unfold blk
      refine Or.inr ⟨h1, h2, h3, ?_⟩
      rcases H with ⟨q1, q2, q3, q4, q5⟩ | ⟨q1, q2, q3, q4, q5, q6, q7, q8, q9, q10⟩ | ⟨q1, q2, q3, q4, q5, q6⟩ | ⟨q1, q2, q3, q4, d', s', e', w1, w2, w3, w4, w5, w6, w7, w8, w9, w10, w11⟩
      · exact Or.inl ⟨q1, q2, q3, q4, ih _ _ _ _ _ q5 f3 (by omega)⟩
      · exact Or.inr (Or.inl ⟨q1, q2, q3, q4, q5, q6, q7, q8, q9, ih _ _ _ _ _ q10 f3 (by omega)⟩)
      · exact Or.inr (Or.inr (Or.inl ⟨q1, q2, q3, q4, q5, ih _ _ _ _ _ q6 f3 (by omega)⟩))
      · exact Or.inr (Or.inr (Or.inr ⟨q1, q2, q3, q4, d', s', e', w1, w2, w3, w4, w5, w6, w7, w8, w9, ih _ _ _ _ _ w10 f3 (by omega), ih _ _ _ _ _ w11 f3 (by omega)⟩))
theorem blk_ap {h : zHp} {f2 : Nat} : ∀ f d s t n m t2 m2 : Nat, blk h f d s t n m → blk h f2 d t t2 m m2 → blk h (t2 - s) d s t2 n m2 := by
  intro f
  induction f with
  | zero =>
    intro d s t n m t2 m2 H H2
    have e : s = t ∧ n = m := H
    rw [e.1, e.2]
    exact blk_fu _ _ _ _ _ _ H2 _ (by omega)
  | succ f ih =>
    intro d s t n m t2 m2 H H2
    have l2 := blk_le _ _ _ _ _ _ H2
    unfold blk at H
    rcases H with e | ⟨h1, h2, h3, H⟩
    · rw [e.1, e.2]
      exact blk_fu _ _ _ _ _ _ H2 _ (by omega)
    · obtain ⟨f3, hf3⟩ : ∃ f3, t2 - s = f3 + 1 := ⟨t2 - s - 1, by omega⟩
      rw [hf3]
      unfold blk
      refine Or.inr ⟨by omega, by omega, h3, ?_⟩
      rcases H with ⟨q1, q2, q3, q4, q5⟩ | ⟨q1, q2, q3, q4, q5, q6, q7, q8, q9, q10⟩ | ⟨q1, q2, q3, q4, q5, q6⟩ | ⟨q1, q2, q3, q4, d', s', e', w1, w2, w3, w4, w5, w6, w7, w8, w9, w10, w11⟩
      · exact Or.inl ⟨q1, q2, q3, q4, blk_fu _ _ _ _ _ _ (ih _ _ _ _ _ _ _ q5 H2) _ (by omega)⟩
      · exact Or.inr (Or.inl ⟨q1, q2, q3, q4, q5, q6, q7, q8, q9, blk_fu _ _ _ _ _ _ (ih _ _ _ _ _ _ _ q10 H2) _ (by omega)⟩)
      · exact Or.inr (Or.inr (Or.inl ⟨q1, q2, q3, q4, q5, blk_fu _ _ _ _ _ _ (ih _ _ _ _ _ _ _ q6 H2) _ (by omega)⟩))
      · exact Or.inr (Or.inr (Or.inr ⟨q1, q2, q3, q4, d', s', e', w1, w2, by omega, w4, by omega, w6, w7, w8, w9, blk_fu _ _ _ _ _ _ w10 _ (by omega), blk_fu _ _ _ _ _ _ (ih _ _ _ _ _ _ _ w11 H2) _ (by omega)⟩))
theorem blk_0 {h : zHp} {d s n : Nat} (f : Nat) : blk h f d s s n n := by
  cases f with
  | zero => exact ⟨rfl, rfl⟩
  | succ f => unfold blk; exact Or.inl ⟨rfl, rfl⟩
/-- one step that is no block -/
theorem blk_1 {h : zHp} {d s n : Nat} (h3 : h 33 n = h 126 s) (he : h 129 s = (s : Int) + 1) (hk : (0 ≤ h 126 s ∧ h 126 s ≤ 1 ∧ h 36 n = h 134 s) ∨ (2 ≤ h 126 s ∧ h 126 s ≤ 3 ∧ h 34 n = h 127 s ∧ 0 ≤ h 127 s ∧ h 127 s ≤ 19 ∧ h 35 n = h 128 s ∧ 0 ≤ h 128 s ∧ h 128 s ≤ 99) ∨ (h 126 s = 4 ∧ h 34 n = h 127 s ∧ 0 ≤ h 127 s ∧ h 127 s ≤ 999)) : blk h 1 d s (s + 1) n (n + 1) := by
  unfold blk
  refine Or.inr ⟨by omega, by omega, h3, ?_⟩
  rcases hk with ⟨a, b, c⟩ | ⟨a, b, c, x, y, z, u, v⟩ | ⟨a, b, c, x⟩
  · exact Or.inl ⟨a, b, c, he, blk_0 0⟩
  · exact Or.inr (Or.inl ⟨a, b, c, x, y, z, u, v, he, blk_0 0⟩)
  · exact Or.inr (Or.inr (Or.inl ⟨a, b, c, x, he, blk_0 0⟩))
/-- the head of a block -/
def hdO (h : zHp) (st nd : Nat) : Prop := h 33 nd = h 126 st ∧ 5 ≤ h 126 st ∧ h 126 st ≤ 7 ∧ (h 126 st = 5 → h 34 nd = h 127 st ∧ 1 ≤ h 127 st ∧ h 127 st ≤ 9) ∧ (6 ≤ h 126 st → h 36 nd = h 134 st ∧ h 37 nd = h 127 st ∧ (h 127 st = 0 ∨ h 127 st = 1))
theorem blk_b {h : zHp} {f d st s nd n : Nat} (H : hdO h st nd) (hs : st < s) (hn : nd < n) (he : h 129 st = (s : Int)) (h8 : h 33 n = 8) (m1 : h 38 n = (nd : Int)) (m2 : h 38 nd = (n : Int)) (hb : blk h f d (st + 1) s (nd + 1) n) : blk h (s - st) (d + 1) st s nd (n + 1) := by
  obtain ⟨f3, hf3⟩ : ∃ f3, s - st = f3 + 1 := ⟨s - st - 1, by omega⟩
  rw [hf3]
  unfold blk
  exact Or.inr ⟨hs, by omega, H.1, Or.inr (Or.inr (Or.inr ⟨H.2.1, H.2.2.1, H.2.2.2.1, H.2.2.2.2, d, s, n, rfl, hs, by omega, hn, by omega, he, h8, m1, m2, blk_fu _ _ _ _ _ _ hb _ (by omega), blk_0 _⟩))⟩
/-- what is read so far: whole steps, and the blocks that are begun -/
def pb (h : zHp) : List (Nat × Nat) → Nat → Nat → Prop
  | [], s, n => blk h 40 3 0 s 0 n
  | (nd, st) :: r, s, n => st < s ∧ nd < n ∧ r.length ≤ 2 ∧ hdO h st nd ∧ blk h 40 (2 - r.length) (st + 1) s (nd + 1) n ∧ pb h r st nd
theorem hdO.cg {h g : zHp} {st nd : Nat} (H : hdO h st nd) (e1 : g 126 st = h 126 st ∧ g 127 st = h 127 st ∧ g 134 st = h 134 st) (e2 : g 33 nd = h 33 nd ∧ g 34 nd = h 34 nd ∧ g 36 nd = h 36 nd ∧ g 37 nd = h 37 nd) : hdO g st nd := by
  unfold hdO at H ⊢
  rw [e1.1, e1.2.1, e1.2.2, e2.1, e2.2.1, e2.2.2.1, e2.2.2.2]
  exact H
theorem pb_cg {h g : zHp} : ∀ (k : List (Nat × Nat)) (s n : Nat), pb h k s n → (∀ j : Nat, j < s → rwE g h j) → (∀ i : Nat, i < n → ndE g h i) → pb g k s n := by
  intro k
  induction k with
  | nil => intro s n H e1 e2; exact blk_cg2 _ _ _ _ _ _ (fun j _ j2 => e1 j j2) (fun i _ i2 => e2 i i2) H
  | cons p r ih =>
    obtain ⟨nd, st⟩ := p
    intro s n H e1 e2
    obtain ⟨h1, h2, h3, h4, h5, h6⟩ := H
    have a := e1 st h1
    have b := e2 nd h2
    unfold rwE at a
    unfold ndE at b
    exact ⟨h1, h2, h3, h4.cg ⟨a.1, a.2.1, a.2.2.2.2⟩ ⟨b.1, b.2.1, b.2.2.2.1, b.2.2.2.2.1⟩, blk_cg2 _ _ _ _ _ _ (fun j _ j2 => e1 j j2) (fun i _ i2 => e2 i i2) h5, ih st nd h6 (fun j hj => e1 j (by omega)) (fun i hi => e2 i (by omega))⟩
/-- one more whole piece at the innermost place -/
theorem pb_ap {h : zHp} {k : List (Nat × Nat)} {s n t m f : Nat} (hl : k.length ≤ 3) (ht : t ≤ 40) (H : pb h k s n) (H2 : blk h f (3 - k.length) s t n m) : pb h k t m := by
  have l2 := blk_le _ _ _ _ _ _ H2
  cases k with
  | nil =>
    have H1 : blk h 40 3 0 s 0 n := H
    have q : blk h (t - 0) 3 0 t 0 m := blk_ap _ _ _ _ _ _ _ _ H1 H2
    exact blk_fu _ _ _ _ _ _ q 40 (by omega)
  | cons p r =>
    obtain ⟨nd, st⟩ := p
    obtain ⟨h1, h2, h3, h4, h5, h6⟩ := H
    have e : 3 - ((nd, st) :: r).length = 2 - r.length := by rw [List.length_cons]; omega
    rw [e] at H2
    exact ⟨by omega, by omega, h3, h4, blk_fu _ _ _ _ _ _ (blk_ap _ _ _ _ _ _ _ _ h5 H2) 40 (by omega), h6⟩
/-- the cells of the class's new acts and the rows A of the steps, as blocks speak of them -/
def mx (g A : zHp) : zHp := fun c => if (126 ≤ c ∧ c ≤ 129) ∨ c = 134 then A c else g (c + 8)
theorem mx_A {g A : zHp} {c : Nat} (h : (126 ≤ c ∧ c ≤ 129) ∨ c = 134) : mx g A c = A c := if_pos h
theorem mx_g {g A : zHp} {c : Nat} (h : ¬ ((126 ≤ c ∧ c ≤ 129) ∨ c = 134)) : mx g A c = g (c + 8) := if_neg h
theorem mx_rw {g f A A2 : zHp} {j : Nat} (e : ∀ c : Nat, (126 ≤ c ∧ c ≤ 129) ∨ c = 134 → A2 c j = A c j) : rwE (mx f A2) (mx g A) j := by
  unfold rwE
  rw [mx_A (by omega), mx_A (by omega), mx_A (by omega), mx_A (by omega), mx_A (by omega), mx_A (by omega), mx_A (by omega), mx_A (by omega), mx_A (by omega), mx_A (by omega)]
  exact ⟨e 126 (by omega), e 127 (by omega), e 128 (by omega), e 129 (by omega), e 134 (by omega)⟩
theorem mx_nd {g f A A2 : zHp} {i : Nat} (e : ∀ c : Nat, 41 ≤ c ∧ c ≤ 46 → f c i = g c i) : ndE (mx f A2) (mx g A) i := ⟨e 41 (by omega), e 42 (by omega), e 43 (by omega), e 44 (by omega), e 45 (by omega), e 46 (by omega)⟩
