-- act: what a run of steps does (written by wip/tools/specE5.py)
def aSt.mk (D : Nat → Int) (dn cut ch co pu : Int) : aSt := (D, dn, cut, ch, co, pu)
def rpF (body : aSt → aSt) : Nat → aSt → aSt
  | 0, S => S
  | n + 1, S => if S.cut = 0 then rpF body n (body S) else S
def utF (so : aSt → Int) (body : aSt → aSt) : Nat → aSt → aSt
  | 0, S => S
  | n + 1, S => if S.cut = 0 ∧ so S = 0 then utF so body n (body S) else S
def soS (h : zHp) (s : Nat) (S : aSt) : Int := soV S.D (h 123) (h 134 s) (h 127 s)
def inc1 (S : aSt) : aSt := aSt.mk S.D (S.dn + 1) S.cut S.ch S.co S.pu
def cut1 (S : aSt) : aSt := aSt.mk S.D S.dn 1 S.ch S.co S.pu
def pur1 (x : Int) (S : aSt) : aSt := aSt.mk S.D S.dn S.cut S.ch S.co (S.pu + x)
noncomputable def ex2 (h : zHp) (sp : Int) (body : aSt → aSt) (s : Nat) (S : aSt) : aSt :=
  if h 126 s < 2 then cN sp (h 126 s) (fdN S.D (h 123) (h 134 s)) 1 S else if h 126 s < 4 then cN sp (h 126 s) (h 127 s) (h 128 s).toNat S
  else if h 126 s = 4 then pur1 (h 127 s) S else if h 126 s = 5 then rpF body (h 127 s).toNat S else if h 126 s = 6 then (if soS h s S = 1 then body S else S) else utF (soS h s) body 20 S
noncomputable def ex1 (h : zHp) (sp : Int) (body : aSt → aSt) (s : Nat) (S : aSt) : aSt := if S.dn = 200 then cut1 S else ex2 h sp body s (inc1 S)
noncomputable def exA (h : zHp) (sp : Int) : Nat → Nat → Nat → aSt → aSt
  | 0, _, _, S => S
  | f + 1, s, t, S => if s < t ∧ S.cut = 0 then exA h sp f (h 129 s).toNat t (ex1 h sp (exA h sp f (s + 1) (h 129 s).toNat) s S) else S
/-- what a step's numbers may be -/
def stO (h : zHp) (s : Nat) : Prop := (0 ≤ h 126 s ∧ h 126 s ≤ 1) ∨ (2 ≤ h 126 s ∧ h 126 s ≤ 3 ∧ 0 ≤ h 127 s ∧ h 127 s ≤ 19 ∧ 0 ≤ h 128 s ∧ h 128 s ≤ 99) ∨ (h 126 s = 4 ∧ 0 ≤ h 127 s ∧ h 127 s ≤ 999) ∨ (5 ≤ h 126 s ∧ h 126 s ≤ 7 ∧ (h 126 s = 5 → 1 ≤ h 127 s ∧ h 127 s ≤ 9) ∧ (6 ≤ h 126 s → h 127 s = 0 ∨ h 127 s = 1))
def aG (S : aSt) : Prop := (dB S.D ∧ S.D 2 < ((2 ^ nN S.D : Nat) : Int)) ∧ (0 ≤ S.dn ∧ S.dn ≤ 200) ∧ (S.cut = 0 ∨ S.cut = 1) ∧ (0 ≤ S.ch ∧ S.ch ≤ 99 * S.dn) ∧ (0 ≤ S.co ∧ S.co ≤ 99 * S.ch) ∧ (0 ≤ S.pu ∧ S.pu ≤ 999 * S.dn)
theorem cN_G {sp k w : Int} : ∀ (n : Nat) (S : aSt), dB S.D ∧ S.D 2 < ((2 ^ nN S.D : Nat) : Int) → cG n S → (dB (cN sp k w n S).D ∧ (cN sp k w n S).D 2 < ((2 ^ nN (cN sp k w n S).D : Nat) : Int)) ∧ (cN sp k w n S).dn = S.dn ∧ (cN sp k w n S).cut = S.cut ∧ (0 ≤ (cN sp k w n S).ch ∧ (cN sp k w n S).ch ≤ S.ch + n) ∧ (0 ≤ (cN sp k w n S).co ∧ (cN sp k w n S).co ≤ 99 * (cN sp k w n S).ch) ∧ (0 ≤ (cN sp k w n S).pu ∧ (cN sp k w n S).pu ≤ S.pu) := by
  intro n
  induction n with
  | zero =>
    intro S hd G
    obtain ⟨g1, g2, g3, g4, g5, g6⟩ := G
    exact ⟨hd, rfl, rfl, ⟨g1, by show S.ch ≤ _; omega⟩, ⟨g3, g4⟩, ⟨g5, Int.le_refl _⟩⟩
  | succ n ih =>
    intro S hd G
    by_cases ok : okC sp k w S
    · rw [cN_s ok]
      have u := uD_dB hd.1 hd.2 ok.1 ok.2.1
      have G2 := c1_G (c := n) hd.1 ok (by rw [show ((n : Nat) : Int) + 1 = ((n + 1 : Nat) : Int) by omega]; exact G)
      have q := ih (c1 sp k w S) ⟨u.1, by show uD k w.toNat S.D 2 < ((2 ^ nN (uD k w.toNat S.D) : Nat) : Int); rw [u.2.1]; exact u.2.2⟩ G2
      have c := th_csD hd.1 ok.1
      have e1 : (c1 sp k w S).ch = S.ch + 1 := rfl
      have e2 : (c1 sp k w S).pu = S.pu - (if sp = 1 then csD k w.toNat S.D else 0) := rfl
      have e3 : (c1 sp k w S).pu ≤ S.pu := by rw [e2]; split <;> omega
      exact ⟨q.1, q.2.1, q.2.2.1, ⟨q.2.2.2.1.1, by have := q.2.2.2.1.2; omega⟩, q.2.2.2.2.1, ⟨q.2.2.2.2.2.1, by have := q.2.2.2.2.2.2; omega⟩⟩
    · rw [cN_no ok]
      obtain ⟨g1, g2, g3, g4, g5, g6⟩ := G
      exact ⟨hd, rfl, rfl, ⟨g1, by omega⟩, ⟨g3, g4⟩, ⟨g5, Int.le_refl _⟩⟩
/-- after a step has been begun, n changes may come -/
theorem aG_cG {S : aSt} (G : aG S) (h : ¬ S.dn = 200) {n : Int} (hn : 0 ≤ n ∧ n ≤ 99) : cG n (inc1 S) := by
  obtain ⟨-, g1, -, g2, g3, g4⟩ := G
  exact ⟨g2.1, by show S.ch + n ≤ _; omega, g3.1, g3.2, g4.1, by show S.pu ≤ _; omega⟩
theorem inc1_G {S : aSt} (G : aG S) (h : ¬ S.dn = 200) : aG (inc1 S) := by
  obtain ⟨g0, g1, gc, g2, g3, g4⟩ := G
  exact ⟨g0, ⟨by show 0 ≤ S.dn + 1; omega, by show S.dn + 1 ≤ 200; omega⟩, gc, ⟨g2.1, by show S.ch ≤ 99 * (S.dn + 1); omega⟩, g3, ⟨g4.1, by show S.pu ≤ 999 * (S.dn + 1); omega⟩⟩
theorem cut1_G {S : aSt} (G : aG S) : aG (cut1 S) := ⟨G.1, G.2.1, Or.inr rfl, G.2.2.2.1, G.2.2.2.2.1, G.2.2.2.2.2⟩
theorem cN_aG {sp k w : Int} {n : Nat} {S : aSt} (G : aG S) (h : ¬ S.dn = 200) (hn : n ≤ 99) : aG (cN sp k w n (inc1 S)) := by
  have q := cN_G (sp := sp) (k := k) (w := w) n (inc1 S) G.1 (aG_cG G h (by omega))
  obtain ⟨g0, g1, gc, g2, g3, g4⟩ := G
  have e1 : (inc1 S).dn = S.dn + 1 := rfl
  have e2 : (inc1 S).cut = S.cut := rfl
  have e3 : (inc1 S).ch = S.ch := rfl
  have e4 : (inc1 S).pu = S.pu := rfl
  obtain ⟨q0, q1, q2, q3, q4, q5⟩ := q
  refine ⟨q0, ?_, ?_, ?_, q4, ?_⟩
  · omega
  · omega
  · omega
  · omega
theorem rpF_G {body : aSt → aSt} (hb : ∀ S, aG S → aG (body S)) : ∀ (n : Nat) (S : aSt), aG S → aG (rpF body n S) := by
  intro n
  induction n with
  | zero => intro S G; exact G
  | succ n ih =>
    intro S G
    rw [rpF]
    split
    · exact ih _ (hb S G)
    · exact G
theorem utF_G {so : aSt → Int} {body : aSt → aSt} (hb : ∀ S, aG S → aG (body S)) : ∀ (n : Nat) (S : aSt), aG S → aG (utF so body n S) := by
  intro n
  induction n with
  | zero => intro S G; exact G
  | succ n ih =>
    intro S G
    rw [utF]
    split
    · exact ih _ (hb S G)
    · exact G
theorem ex1_G {h : zHp} {sp : Int} {body : aSt → aSt} {s : Nat} (hs : stO h s) (hb : ∀ S, aG S → aG (body S)) {S : aSt} (G : aG S) : aG (ex1 h sp body s S) := by
  unfold ex1
  split
  · exact cut1_G G
  · next hd =>
    have G1 := inc1_G G hd
    unfold ex2
    split
    · exact cN_aG G hd (by omega)
    · split
      · refine cN_aG G hd ?_
        unfold stO at hs
        omega
      · split
        · unfold stO at hs
          obtain ⟨g0, g1, gc, g2, g3, g4⟩ := G
          exact ⟨g0, ⟨by show 0 ≤ S.dn + 1; omega, by show S.dn + 1 ≤ 200; omega⟩, gc, ⟨g2.1, by show S.ch ≤ 99 * (S.dn + 1); omega⟩, g3, ⟨by show 0 ≤ S.pu + h 127 s; omega, by show S.pu + h 127 s ≤ 999 * (S.dn + 1); omega⟩⟩
        · split
          · exact rpF_G hb _ _ G1
          · split
            · split
              · exact hb _ G1
              · exact G1
            · exact utF_G hb _ _ G1
theorem blk_st {h : zHp} {f d s t n m : Nat} (B : blk h (f + 1) d s t n m) (hs : s < t) : stO h s ∧ ∃ s' : Nat, h 129 s = (s' : Int) ∧ s < s' ∧ s' ≤ t := by
  unfold blk at B
  unfold stO
  rcases B with B | ⟨h1, h2, h3, B⟩
  · omega
  · rcases B with ⟨q1, q2, q3, q4, q5⟩ | ⟨q1, q2, q3, q4, q5, q6, q7, q8, q9, q10⟩ | ⟨q1, q2, q3, q4, q5, q6⟩ | ⟨q1, q2, q3, q4, d', s', e', w1, w2, w3, w4, w5, w6, w7, w8, w9, w10, w11⟩
    · exact ⟨Or.inl ⟨q1, q2⟩, s + 1, by omega, by omega, by omega⟩
    · exact ⟨Or.inr (Or.inl ⟨q1, q2, q4, q5, q7, q8⟩), s + 1, by omega, by omega, by omega⟩
    · exact ⟨Or.inr (Or.inr (Or.inl ⟨q1, q3, q4⟩)), s + 1, by omega, by omega, by omega⟩
    · exact ⟨Or.inr (Or.inr (Or.inr ⟨q1, q2, fun e => (q3 e).2, fun e => (q4 e).2.2⟩)), s', w6, w2, w3⟩
