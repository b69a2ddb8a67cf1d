-- what later answers can hang on (but for the two statuses): places of cells; the rest is scratch
def ob (a i : Nat) : Bool := match a with
  | 0 => i == 11
  | 2 => i == 1 || i == 8 || i == 9
  | 3 => true
  | 4 | 5 | 6 | 7 | 8 | 9 | 10 | 11 | 12 | 13 => true
  | 24 | 25 | 26 | 27 => true
  | 32 | 33 | 34 | 35 | 36 | 37 | 38 => true
  | 58 | 59 => true
  | 60 => i == 4 || i == 5
  | 63 => i == 5 || i == 6
  | 65 => i == 4 || i == 5 || i == 6 || i == 7 || i == 8
  | 67 | 68 | 69 | 70 | 71 | 72 | 73 | 74 => true
  | 75 | 76 | 77 | 78 | 79 | 80 | 81 | 82 | 83 | 84 | 85 | 86 | 87 | 88 => true
  | 89 | 90 | 91 | 92 | 93 | 94 | 95 | 96 | 97 | 98 | 99 | 100 | 101 | 102 => true
  | 103 | 104 | 105 | 106 | 107 | 108 | 109 | 110 | 111 | 112 | 113 | 114 | 115 | 116 => true
  | 117 => i == 2 || i == 3 || i == 8 || i == 10 || i == 11 || i == 22 || i == 26 || i == 29 || i == 30 || i == 31 || i == 32 || i == 33 || i == 35 || i == 49 || i == 50 || i == 51 || i == 52 || i == 61 || i == 62
  | 118 | 119 | 120 | 121 => true
  | 122 => decide (i < 1200)
  | 123 => decide (i < 32)
  | 126 | 127 | 128 | 129 | 134 | 138 => true
  | 200 | 201 => true
  | _ => false
def mask (h : zHp) : zHp := fun a i => if ob a i = true then h a i else 0
def zOb (h g : zHp) : Prop := ∀ a i : Nat, ob a i = true → g a i = h a i
theorem zOb.rf {h : zHp} : zOb h h := fun _ _ _ => rfl
theorem zOb.tr {h g f : zHp} (H : zOb h g) (H2 : zOb g f) : zOb h f := fun a i q => (H2 a i q).trans (H a i q)
theorem zOb.up {h g : zHp} (H : zOb h g) {a i : Nat} {v : Int} (hq : ob a i = false) : zOb h (zup g a i v) := fun a' i' q => by
  rw [zup_ne (fun e => by rw [e.1, e.2, hq] at q; cases q)]
  exact H a' i' q
theorem zOb.fr {h g : zHp} {c : Nat} (hc : ∀ i, ob c i = false) (H : zFr c h g) : zOb h g := fun a i q => by
  rw [H a (fun e => by rw [e, hc] at q; cases q)]
theorem zOb_mask {h g : zHp} (H : zOb h g) : mask g = mask h := by
  funext a i
  unfold mask
  by_cases q : ob a i = true
  · rw [if_pos q, if_pos q, H a i q]
  · rw [if_neg q, if_neg q]
theorem mask_at {h : zHp} {a i : Nat} (hq : ob a i = true) : mask h a i = h a i := if_pos hq
theorem zOb_cA {h : zHp} (D : Nat → Int) (s : Nat) (x : Int) : zOb h (cA h D s x) := fun a i q => by
  unfold cA
  rw [if_neg (fun e => by rw [e.1] at q; cases q), if_neg (fun e => by rw [e.1, e.2] at q; cases q)]
