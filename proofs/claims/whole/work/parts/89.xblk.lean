-- act: a block of the class's run (written by wip/tools/specF1.py)
abbrev xR (dn n k : Int) (g : zHp) (Q : Int → zHp → Prop) : Prop := zRW mX3_run 7 (0, 0) 31 [zA 65, zI dn, zI n, zI k] [] 143 g (zqi Q)
/-- from node n with S at g one comes to node m with T, or stops with T -/
def xGo (h : zHp) (N : Nat) (n m : Nat) (S T : aSt) (g : zHp) (k : Int) : Prop := ∀ Q : Int → zHp → Prop, (∀ (g' : zHp) (k' : Int), T.cut = 0 → xS h (h 123) T g' → (∀ j : Nat, j < n → g' 66 j = g 66 j) → 0 ≤ k' → k' - 22 * T.dn ≤ k - 22 * S.dn → xR T.dn m k' g' Q) → (∀ g' : zHp, ¬ T.cut = 0 → xS h (h 123) T g' → Q T.dn g') → xR S.dn n k g Q
theorem ex2_s {h : zHp} {sp : Int} {body : aSt → aSt} {s : Nat} (hs : h 126 s < 5) (S : aSt) : ex2 h sp body s S = bsS h sp s S := by
  unfold ex2 bsS
  by_cases q1 : h 126 s < 2
  · rw [if_pos q1, if_pos q1]
  · rw [if_neg q1, if_neg q1]
    by_cases q2 : h 126 s < 4
    · rw [if_pos q2, if_pos q2]
    · rw [if_neg q2, if_neg q2]
      by_cases q3 : h 126 s = 4
      · rw [if_pos q3, if_pos q3]
      · omega
theorem bsS_dn {h : zHp} {sp : Int} {s : Nat} (hst : stO h s) {S : aSt} (G : aG S) (hd : ¬ S.dn = 200) : (bsS h sp s (inc1 S)).dn = S.dn + 1 ∧ (bsS h sp s (inc1 S)).cut = S.cut := by
  unfold bsS
  unfold stO at hst
  split
  · have q := cN_G (sp := sp) (k := h 126 s) (w := fdN (inc1 S).D (h 123) (h 134 s)) 1 (inc1 S) G.1 (aG_cG G hd (by omega))
    exact ⟨q.2.1, q.2.2.1⟩
  · split
    · have q := cN_G (sp := sp) (k := h 126 s) (w := h 127 s) (h 128 s).toNat (inc1 S) G.1 (aG_cG G hd (by omega))
      exact ⟨q.2.1, q.2.2.1⟩
    · split
      · exact ⟨rfl, rfl⟩
      · exact ⟨rfl, rfl⟩
theorem bsS_5 {h : zHp} {sp : Int} {s : Nat} (hs : 5 ≤ h 126 s) (S : aSt) : bsS h sp s S = S := by
  unfold bsS
  rw [if_neg (by omega), if_neg (by omega), if_neg (by omega)]
/-- a step that is no block -/
theorem x_go1 {h : zHp} {sp : Int} (hsp : h 32 2 = sp) (hs01 : sp = 0 ∨ sp = 1) {N : Nat} (hN : h 32 0 = (N : Int)) {s n : Nat} (hnN : n < N) (hst : stO h s) (hn : stN2 h s n n) (h5 : h 126 s < 5) (body : aSt → aSt) {S : aSt} {g : zHp} {k : Int} (Hx : xS h (h 123) S g) (G : aG S) (hc : S.cut = 0) (hk : 0 ≤ k ∧ k ≤ 22 * S.dn + 100) : xGo h N n (n + 1) S (ex1 h sp body s S) g k := by
  intro Q k1 k2
  have Gd := G.2.1
  refine x_it h sp s n n hst hn hsp hs01 Q g S Hx G k (by omega) (by omega) (fun hd g' Hx' h66 => ?_) (fun hd g' Hx' => ?_)
  · have e : ex1 h sp body s S = bsS h sp s (inc1 S) := by
      unfold ex1
      rw [if_neg hd]
      exact ex2_s h5 _
    have q := bsS_dn (sp := sp) hst G hd
    rw [e, q.1] at k1
    have r := k1 g' (k + 1) (by rw [q.2]; exact hc) Hx' (fun j hj => by rw [h66]; unfold bsR; rw [if_neg (by omega)]) (by omega) (by omega)
    rw [show bsN h s n n (inc1 S) = ((n + 1 : Nat) : Int) by unfold bsN; rw [if_neg (by omega), if_neg (by omega)]; omega]
    exact r
  · have e : ex1 h sp body s S = cut1 S := by
      unfold ex1
      rw [if_pos hd]
    rw [e] at k2
    exact k2 g' (by show ¬ (1 : Int) = 0; omega) Hx'
/-- one run through a block's body, then its end -/
theorem xGo.tr {h : zHp} {N : Nat} {n m m' : Nat} {S T U : aSt} {g : zHp} {k : Int} (H : xGo h N n m S T g k) (hst : ¬ T.cut = 0 → U = T) (H2 : ∀ (g' : zHp) (k' : Int), T.cut = 0 → xS h (h 123) T g' → (∀ j : Nat, j < n → g' 66 j = g 66 j) → 0 ≤ k' → k' - 22 * T.dn ≤ k - 22 * S.dn → xGo h N m m' T U g' k') (hnm : n ≤ m) : xGo h N n m' S U g k := by
  intro Q k1 k2
  refine H Q (fun g' k' c0 x0 r0 p0 q0 => ?_) (fun g' c0 x0 => ?_)
  · exact H2 g' k' c0 x0 r0 p0 q0 Q (fun g2 k3 c1 x1 r1 p1 q1 => k1 g2 k3 c1 x1 (fun j hj => (r1 j (by omega)).trans (r0 j hj)) p1 (by omega)) k2
  · have e := hst c0
    subst e
    exact k2 g' c0 x0
