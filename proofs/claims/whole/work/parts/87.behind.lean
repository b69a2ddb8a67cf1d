-- act: the class's steps (written by wip/tools/specE8.py)
noncomputable def bsS (h : zHp) (sp : Int) (s : Nat) (S : aSt) : aSt :=
  if h 126 s < 2 then cN sp (h 126 s) (fdN S.D (h 123) (h 134 s)) 1 S else if h 126 s < 4 then cN sp (h 126 s) (h 127 s) (h 128 s).toNat S else if h 126 s = 4 then pur1 (h 127 s) S else S
/-- the place behind step s that stands as node n, its end as node e -/
def bsN (h : zHp) (s n e : Nat) (S : aSt) : Int := if h 126 s = 6 then (if soS h s S = 1 then (n : Int) + 1 else (e : Int) + 1) else if h 126 s = 7 then (if soS h s S = 1 then (e : Int) + 1 else (n : Int) + 1) else (n : Int) + 1
def bsR (h : zHp) (s n : Nat) (R : Nat → Int) : Nat → Int := if h 126 s = 5 ∨ h 126 s = 7 then upD R n 1 else R
/-- step s of the reference stands as node n, its block's end as e -/
def stN2 (h : zHp) (s n e : Nat) : Prop := n < 80 ∧ e < 80 ∧ h 33 n = h 126 s ∧ (h 126 s < 2 → h 36 n = h 134 s) ∧ (2 ≤ h 126 s → h 126 s ≤ 5 → h 34 n = h 127 s) ∧ (2 ≤ h 126 s → h 126 s ≤ 3 → h 35 n = h 128 s) ∧ (6 ≤ h 126 s → h 36 n = h 134 s ∧ h 37 n = h 127 s) ∧ (5 ≤ h 126 s → h 38 n = (e : Int))
theorem xS_o {h g : zHp} {W : Nat → Int} {S : aSt} (H : xS h W S g) {a : Nat} (ha : 14 ≤ a ∧ a < 50 ∨ 5 ≤ a ∧ a ≤ 8) : g a = h a := H.2.2.2.2.2.2 a (by omega) (by omega) (by omega) (by omega) (by omega) (by omega)
theorem xS_f {h g f : zHp} {W : Nat → Int} {S : aSt} (H : xS h W S g) (F : zFr 51 g f) : xS h W S f := by
  obtain ⟨H1, x4, x5, x6, x7, x8, xo⟩ := H
  refine ⟨HR_fr H1 (fun b hb => F b (by omega)), by rw [F 65 (by decide)]; exact x4, by rw [F 65 (by decide)]; exact x5, by rw [F 65 (by decide)]; exact x6, by rw [F 65 (by decide)]; exact x7, by rw [F 65 (by decide)]; exact x8, fun a a1 a2 a3 a4 a5 a6 => (F a a4).trans (xo a a1 a2 a3 a4 a5 a6)⟩
theorem xS_66 {h g : zHp} {W : Nat → Int} {S : aSt} (H : xS h W S g) (i : Nat) (v : Int) : xS h W S (zup g 66 i v) := by
  obtain ⟨H1, x4, x5, x6, x7, x8, xo⟩ := H
  exact ⟨HR_fr H1 (fun b hb => zup_off (by omega)), by rw [zup_off (by decide)]; exact x4, by rw [zup_off (by decide)]; exact x5, by rw [zup_off (by decide)]; exact x6, by rw [zup_off (by decide)]; exact x7, by rw [zup_off (by decide)]; exact x8, fun a a1 a2 a3 a4 a5 a6 => (zup_off a6).trans (xo a a1 a2 a3 a4 a5 a6)⟩
theorem xS_pu {h g : zHp} {W : Nat → Int} {S : aSt} (H : xS h W S g) (x : Int) : xS h W (pur1 x S) (zup g 65 7 (S.pu + x)) := by
  obtain ⟨H1, x4, x5, x6, x7, x8, xo⟩ := H
  exact ⟨HR_fr H1 (fun b hb => zup_off (by omega)), by rw [zup_ne (by decide)]; exact x4, by rw [zup_ne (by decide)]; exact x5, by rw [zup_ne (by decide)]; exact x6, by rw [zup_at]; rfl, by rw [zup_ne (by decide)]; exact x8, fun a a1 a2 a3 a4 a5 a6 => (zup_off a5).trans (xo a a1 a2 a3 a4 a5 a6)⟩
theorem x_isSoS {h g : zHp} {S : aSt} (Hx : xS h (h 123) S g) {s n e : Nat} (hn : stN2 h s n e) (hng : h 127 s = 0 ∨ h 127 s = 1) (h6 : 6 ≤ h 126 s) : zCi mX3_isSo 4 [zA 65, zI n] g (fun v h' => soS h s S = v ∧ xS h (h 123) S h' ∧ zFr 51 g h') := by
  obtain ⟨n1, -, -, -, -, -, n7, -⟩ := hn
  have g36 : g 36 = h 36 := xS_o Hx (by omega)
  have g37 : g 37 = h 37 := xS_o Hx (by omega)
  have q := x_isSo g S.D (h 123) Hx.1 n n1 (by rw [g37, (n7 h6).2]; exact hng)
  rw [g36, g37, (n7 h6).1, (n7 h6).2] at q
  exact zCi_wk q (fun v h' z => ⟨z.1, xS_f Hx z.2, z.2⟩)
