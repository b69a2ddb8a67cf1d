-- what holds between the two objects
def pX (h : zHp) (a : Nat) : Nat → Nat → Nat := fun s k => (h (a + 9) (8 * s + k)).toNat
/-- the class's hall at cell a holds the numbers D and the words W -/
def hallR (h : zHp) (a : Nat) (D W : Nat → Int) : Prop := dB D ∧ D 2 < ((2 ^ nN D : Nat) : Int) ∧ h a 0 = D 0 ∧ h a 1 = D 2 ∧ h a 7 = D 1 ∧
  (∀ k : Nat, k < nN D → h (a + 1) k = W k ∧ h (a + 2) k = D (3 + k) ∧ h (a + 4) k = D (11 + k) ∧ 0 ≤ h (a + 3) k ∧ h (a + 3) k < D 0 ∧ D (11 + (h (a + 3) k).toNat) = (k : Int) ∧ h (a + 3) (D (11 + k)).toNat = (k : Int)) ∧
  (∀ s : Nat, s < nS D → h (a + 5) s = D (20 + s) ∧ h (a + 6) s = D (40 + s) ∧ h (a + 7) s = D (60 + s)) ∧
  (∀ s k : Nat, s < nS D → k < nN D → h (a + 8) (8 * s + k) = D (80 + 8 * s + k) ∧ 0 ≤ h (a + 9) (8 * s + k)) ∧ pB D (pX h a)
/-- the class's rule at cell a -/
def ruleR (h : zHp) (a : Nat) (D : Nat → Int) : Prop := h a 0 = D 240 ∧ ∀ c : Nat, (c : Int) < D 240 → (D (241 + c) = 2 → h (a + 1) c = 1) ∧ (D (241 + c) = 3 → h (a + 1) c = 2) ∧ (D (241 + c) = 5 → h (a + 1) c = 3 ∧ h (a + 2) c = D (245 + c)) ∧ ((D (241 + c) = 0 ∨ D (241 + c) = 1 ∨ D (241 + c) = 4) → h (a + 1) c = 0 ∧ ∃ mn : Nat, mn ≤ 8 ∧ h (a + 2) c = (mn : Int) ∧ (∀ i : Nat, i < mn → h (a + 3) (8 * c + i) = eachP D c i) ∧ ∀ q : Int, (mn : Int) ≤ q → eachP D c q = 0)
theorem hallR_hX {h : zHp} {D W : Nat → Int} (H : hallR h 4 D W) : hX h D (pX h 4) := by
  obtain ⟨-, -, h0, -, h7, hk, -, ho, hp⟩ := H
  refine ⟨h0, h7, fun s k hs hk => ⟨(ho s k hs hk).1, ?_⟩, fun k hk2 => (hk k hk2).2.2.2⟩
  have q : 0 ≤ h 13 (8 * s + k) := (ho s k hs hk).2
  show h 13 (8 * s + k) = (((h 13 (8 * s + k)).toNat : Nat) : Int)
  omega
theorem ruleR_rX {h : zHp} {D : Nat → Int} (H : ruleR h 24 D) : rX h D := H
def rTray (h : zHp) : Prop := ∀ t : Nat, t < 4 → (-1 ≤ h 119 t ∧ h 119 t ≤ 60) ∧ (0 ≤ h 118 t ∧ h 118 t ≤ 3) ∧ h (67 + 2 * t) 0 = (if 0 ≤ h 119 t then 1 else 0) ∧ (0 ≤ h 119 t → h (67 + 2 * t) 1 = h 118 t ∧ h (67 + 2 * t) 2 = h 119 t ∧ ∀ i : Nat, (i : Int) < h 119 t → h (68 + 2 * t) i = h 120 (60 * t + i))
def rTape (h : zHp) : Prop := h 2 1 = h 117 8 ∧ 0 ≤ h 117 8 ∧ h 117 8 ≤ 700 ∧ (∀ i : Nat, (i : Int) < h 117 8 → h 3 i = h 121 i) ∧ h 2 8 = h 117 10 ∧ h 2 9 = h 117 11
def rMarks (h : zHp) : Prop := h 0 11 = h 117 22 ∧ 0 ≤ h 117 22 ∧ h 117 22 ≤ 3 ∧ ∀ i : Nat, (i : Int) < h 117 22 → hallR h (75 + 14 * i) (fun j => h 122 (300 * (i + 1) + j)) (fun k => h 123 (8 * (i + 1) + k)) ∧ ruleR h (85 + 14 * i) (fun j => h 122 (300 * (i + 1) + j))
def rFound (h : zHp) : Prop := h 58 0 = h 117 52 ∧ (h 117 52 = 0 ∨ h 117 52 = 1 ∨ h 117 52 = 2) ∧ (¬ h 117 52 = 0 → h 58 1 = h 117 49) ∧ (h 117 52 = 1 → h 58 2 = h 117 50) ∧ (h 117 52 = 2 → h 58 3 = h 117 51 ∧ 0 ≤ h 117 51 ∧ h 117 51 ≤ 12 ∧ ∀ s : Nat, (s : Int) < h 117 51 → h 59 s = h 138 s)
def rOpen (h : zHp) : Prop := h 60 4 = h 117 62 ∧ (h 117 62 = 1 → h 60 5 = h 117 61)
def rActed (h : zHp) : Prop := h 65 4 = h 117 35 ∧ (h 117 35 = 1 → h 65 5 = h 117 30 ∧ h 65 6 = h 117 31 ∧ h 65 7 = h 117 32 ∧ h 65 8 = h 117 29)
def rFrac (h : zHp) : Prop := h 63 5 = h 117 2 ∧ h 63 6 = h 117 3
theorem rTray_oc {h g : zHp} (e : zOc 1 h g) (H : rTray h) : rTray g := by
  intro t ht
  have e1 : ∀ i, g (67 + 2 * t) i = h (67 + 2 * t) i := fun i => e _ i (by
    have : t = 0 ∨ t = 1 ∨ t = 2 ∨ t = 3 := by omega
    rcases this with rfl | rfl | rfl | rfl <;> rfl)
  have e2 : ∀ i, g (68 + 2 * t) i = h (68 + 2 * t) i := fun i => e _ i (by
    have : t = 0 ∨ t = 1 ∨ t = 2 ∨ t = 3 := by omega
    rcases this with rfl | rfl | rfl | rfl <;> rfl)
  have q := H t ht
  rw [e 119 t rfl, e 118 t rfl, e1, e1, e1]
  refine ⟨q.1, q.2.1, q.2.2.1, fun h0 => ?_⟩
  have q2 := q.2.2.2 h0
  refine ⟨q2.1, q2.2.1, fun i hi => ?_⟩
  rw [e2, e 120 _ rfl]
  exact q2.2.2 i hi
theorem rTape_oc {h g : zHp} (e : zOc 2 h g) (H : rTape h) : rTape g := by
  unfold rTape at H ⊢
  rw [e 2 1 rfl, e 117 8 rfl, e 2 8 rfl, e 117 10 rfl, e 2 9 rfl, e 117 11 rfl]
  exact ⟨H.1, H.2.1, H.2.2.1, fun i hi => by rw [e 3 i rfl, e 121 i rfl]; exact H.2.2.2.1 i hi, H.2.2.2.2.1, H.2.2.2.2.2⟩
theorem rFound_oc {h g : zHp} (e : zOc 3 h g) (H : rFound h) : rFound g := by
  unfold rFound at H ⊢
  rw [e 58 0 rfl, e 117 52 rfl, e 58 1 rfl, e 117 49 rfl, e 58 2 rfl, e 117 50 rfl, e 58 3 rfl, e 117 51 rfl]
  exact ⟨H.1, H.2.1, H.2.2.1, H.2.2.2.1, fun q => ⟨(H.2.2.2.2 q).1, (H.2.2.2.2 q).2.1, (H.2.2.2.2 q).2.2.1, fun s hs => by rw [e 59 s rfl, e 138 s rfl]; exact (H.2.2.2.2 q).2.2.2 s hs⟩⟩
theorem rOpen_oc {h g : zHp} (e : zOc 4 h g) (H : rOpen h) : rOpen g := by
  unfold rOpen at H ⊢
  rw [e 60 4 rfl, e 117 62 rfl, e 60 5 rfl, e 117 61 rfl]
  exact H
theorem rActed_oc {h g : zHp} (e : zOc 7 h g) (H : rActed h) : rActed g := by
  unfold rActed at H ⊢
  rw [e 65 4 rfl, e 117 35 rfl, e 65 5 rfl, e 117 30 rfl, e 65 6 rfl, e 117 31 rfl, e 65 7 rfl, e 117 32 rfl, e 65 8 rfl, e 117 29 rfl]
  exact H
theorem rFrac_oc {h g : zHp} (e : zOc 9 h g) (H : rFrac h) : rFrac g := by
  unfold rFrac at H ⊢
  rw [e 63 5 rfl, e 117 2 rfl, e 63 6 rfl, e 117 3 rfl]
  exact H
