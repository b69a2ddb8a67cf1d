-- what later answers can hang on (but for the two statuses), by component: 1 trays, 2 tape and faults, 3 found, 4 opening, 5 hall and rule, 6 marks, 7 acted, 8 acts, 9 fraction, 10 script; 0: scratch and statuses
def obc (a i : Nat) : Nat := match a with
  | 0 => if i = 11 then 6 else 0
  | 2 => if i = 1 ∨ i = 8 ∨ i = 9 then 2 else 0
  | 3 => 2
  | 4 | 5 | 6 | 7 | 8 | 9 | 10 | 11 | 12 | 13 => 5
  | 24 | 25 | 26 | 27 => 5
  | 32 | 33 | 34 | 35 | 36 | 37 | 38 => 8
  | 58 | 59 => 3
  | 60 => if i = 4 ∨ i = 5 then 4 else 0
  | 63 => if i = 5 ∨ i = 6 then 9 else 0
  | 65 => if i = 4 ∨ i = 5 ∨ i = 6 ∨ i = 7 ∨ i = 8 then 7 else 0
  | 67 | 68 | 69 | 70 | 71 | 72 | 73 | 74 => 1
  | 75 | 76 | 77 | 78 | 79 | 80 | 81 | 82 | 83 | 84 | 85 | 86 | 87 | 88 => 6
  | 89 | 90 | 91 | 92 | 93 | 94 | 95 | 96 | 97 | 98 | 99 | 100 | 101 | 102 => 6
  | 103 | 104 | 105 | 106 | 107 | 108 | 109 | 110 | 111 | 112 | 113 | 114 | 115 | 116 => 6
  | 117 => if i = 2 ∨ i = 3 then 9 else if i = 8 ∨ i = 10 ∨ i = 11 then 2 else if i = 22 then 6 else if i = 26 ∨ i = 33 then 8 else if i = 29 ∨ i = 30 ∨ i = 31 ∨ i = 32 ∨ i = 35 then 7 else if i = 49 ∨ i = 50 ∨ i = 51 ∨ i = 52 then 3 else if i = 61 ∨ i = 62 then 4 else 0
  | 118 | 119 | 120 => 1
  | 121 => 2
  | 122 => if i < 300 then 5 else if i < 1200 then 6 else 10
  | 123 => if i < 8 then 5 else if i < 32 then 6 else 0
  | 126 | 127 | 128 | 129 | 134 => 8
  | 138 => 3
  | 200 | 201 => 10
  | _ => 0
/-- a component is as it was -/
def zOc (c : Nat) (h g : zHp) : Prop := ∀ a i : Nat, obc a i = c → g a i = h a i
/-- bounds of what the reference's new block holds of a rule -/
def nB (h : zHp) : Prop := ∀ c : Nat, c < 4 → 0 ≤ h 122 (1441 + c) ∧ h 122 (1441 + c) ≤ 5 ∧ 0 ≤ h 122 (1445 + c) ∧ h 122 (1445 + c) ≤ 99 ∧ 0 ≤ h 122 (1449 + c) ∧ h 122 (1449 + c) ≤ 8 ∧ ∀ i : Nat, i < 8 → 0 ≤ h 122 (1453 + 8 * c + i) ∧ h 122 (1453 + 8 * c + i) ≤ 99
theorem nB_cg {h g : zHp} (e : ∀ j : Nat, 1200 ≤ j → g 122 j = h 122 j) (H : nB h) : nB g := fun c hc => by
  rw [e _ (by omega), e _ (by omega), e _ (by omega)]
  have q := H c hc
  exact ⟨q.1, q.2.1, q.2.2.1, q.2.2.2.1, q.2.2.2.2.1, q.2.2.2.2.2.1, fun i hi => by rw [e _ (by omega)]; exact q.2.2.2.2.2.2 i hi⟩
theorem nB_oc {h g : zHp} (e : zOc 10 h g) (H : nB h) : nB g := nB_cg (fun j hj => e 122 j (by
  show (if j < 300 then 5 else if j < 1200 then 6 else 10) = 10
  rw [if_neg (by omega), if_neg (by omega)])) H
/-- all components but those in L are as they were -/
def zEx (L : List Nat) (h g : zHp) : Prop := ∀ c : Nat, 1 ≤ c → c ≤ 10 → ¬ c ∈ L → zOc c h g
theorem zEx.rf {L : List Nat} {h : zHp} : zEx L h h := fun _ _ _ _ _ _ _ => rfl
theorem zEx.tr {L : List Nat} {h g f : zHp} (H : zEx L h g) (H2 : zEx L g f) : zEx L h f := fun c h1 h2 h3 a i q => (H2 c h1 h2 h3 a i q).trans (H c h1 h2 h3 a i q)
theorem zEx.wk {L L' : List Nat} {h g : zHp} (H : zEx L h g) (hL : ∀ c, c ∈ L → c ∈ L') : zEx L' h g := fun c h1 h2 h3 => H c h1 h2 (fun q => h3 (hL c q))
theorem zEx.up {L : List Nat} {h g : zHp} (H : zEx L h g) {a i : Nat} {v : Int} (hq : obc a i = 0 ∨ obc a i ∈ L) : zEx L h (zup g a i v) := fun c h1 h2 h3 a' i' q => by
  rw [zup_ne (fun e => by
    rw [e.1, e.2] at q
    rcases hq with z | z
    · omega
    · rw [q] at z; exact h3 z)]
  exact H c h1 h2 h3 a' i' q
theorem zEx.fr {L : List Nat} {h g f : zHp} {c : Nat} (H : zEx L h g) (hc : ∀ i, obc c i = 0 ∨ obc c i ∈ L) (H2 : zFr c g f) : zEx L h f := fun k h1 h2 h3 a i q => by
  rw [H2 a (fun e => by
    rw [e] at q
    rcases hc i with z | z
    · omega
    · rw [q] at z; exact h3 z)]
  exact H k h1 h2 h3 a i q
theorem zEx_cA {L : List Nat} {h g : zHp} (H : zEx L h g) (D : Nat → Int) (s : Nat) (x : Int) : zEx L h (cA g D s x) := fun k h1 h2 h3 a i q => by
  have e : cA g D s x a i = g a i := by
    show (if a = 124 ∧ i < s then D (20 + i) else if a = 117 ∧ i = 25 then x else g a i) = g a i
    rw [if_neg (fun e => by rw [e.1] at q; have : (0 : Nat) = k := q; omega), if_neg (fun e => by rw [e.1, e.2] at q; have : (0 : Nat) = k := q; omega)]
  rw [e]
  exact H k h1 h2 h3 a i q
