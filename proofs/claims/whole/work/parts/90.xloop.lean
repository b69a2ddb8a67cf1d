-- act: blocks of the class's run (written by wip/tools/specF2.py)
theorem utF_stop {so : aSt → Int} {body : aSt → aSt} {S : aSt} (h : ¬ (S.cut = 0 ∧ so S = 0)) (n : Nat) : utF so body n S = S := by
  cases n with
  | zero => rfl
  | succ n => rw [utF, if_neg h]
theorem rpF_ut (body : aSt → aSt) : ∀ (n : Nat) (S : aSt), rpF body n S = utF (fun _ => 0) body n S := by
  intro n
  induction n with
  | zero => intro S; rfl
  | succ n ih =>
    intro S
    rw [rpF, utF, ih]
    by_cases q : S.cut = 0
    · rw [if_pos q, if_pos ⟨q, rfl⟩]
    · rw [if_neg q, if_neg (fun z => q z.1)]
theorem x_lp {h : zHp} {sp : Int} (hsp : h 32 2 = sp) (hs01 : sp = 0 ∨ sp = 1) {N : Nat} (hN : h 32 0 = (N : Int)) {s n e : Nat} (heN : e < N) (hst : stO h s) (hn : stN2 h s n e) (h5 : 5 ≤ h 126 s) (e8 : h 33 e = 8) (em : h 38 e = (n : Int)) (body : aSt → aSt) (hbG : ∀ S, aG S → aG (body S)) (hb : ∀ (S : aSt) (g : zHp) (k : Int), xS h (h 123) S g → aG S → S.cut = 0 → 0 ≤ k ∧ k ≤ 22 * S.dn + 100 → xGo h N (n + 1) e S (body S) g k) (so : aSt → Int) (c : Nat) (hc20 : c ≤ 20) (hag : ∀ (r : Nat) (S : aSt), r ≤ c → (agP h s ((c : Int) - r) S ↔ 0 < r ∧ so S = 0)) (Q : Int → zHp → Prop) :
    ∀ (r : Nat), r < c → ∀ (S : aSt) (g : zHp) (k : Int), xS h (h 123) S g → aG S → S.cut = 0 → g 66 n = (c : Int) - r → 0 ≤ k ∧ k + r + 1 ≤ 22 * S.dn + 100 →
    (∀ (g' : zHp) (k' : Int), (utF so body r (body S)).cut = 0 → xS h (h 123) (utF so body r (body S)) g' → (∀ j : Nat, j < n → g' 66 j = g 66 j) → 0 ≤ k' → k' - 22 * (utF so body r (body S)).dn ≤ k - 22 * S.dn + r + 1 → xR (utF so body r (body S)).dn ((e + 1 : Nat) : Int) k' g' Q) →
    (∀ g' : zHp, ¬ (utF so body r (body S)).cut = 0 → xS h (h 123) (utF so body r (body S)) g' → Q (utF so body r (body S)).dn g') → xR S.dn ((n + 1 : Nat) : Int) k g Q := by
  intro r
  induction r with
  | zero =>
    intro hr S g k Hx G hc hro hk k1 k2
    refine hb S g k Hx G hc (by omega) Q (fun g3 k3 c3 x3 r3 p3 q3 => ?_) (fun g3 c3 x3 => k2 g3 c3 x3)
    have G3 := hbG S G
    have Gd3 := G3.2.1
    have er : g3 66 n = (c : Int) - (0 : Nat) := (r3 n (by omega)).trans hro
    refine x_ie h sp s n e hst hn hsp hs01 Q g3 (body S) x3 G3 k3 (by omega) h5 e8 em (by omega) (fun g4 x4 h66 => ⟨fun z => ?_, fun z => ?_⟩)
    · rw [er] at z
      have := ((hag 0 (body S) (by omega)).mp z).1
      omega
    · have q := k1 g4 (k3 + 1) c3 x4 (fun j hj => by rw [h66, upD_ne (by omega)]; exact r3 j (by omega)) (by omega) (by show k3 + 1 - 22 * (body S).dn ≤ _; omega)
      rw [show ((e + 1 : Nat) : Int) = (e : Int) + 1 by omega] at q
      exact q
  | succ r ih =>
    intro hr S g k Hx G hc hro hk k1 k2
    refine hb S g k Hx G hc (by omega) Q (fun g3 k3 c3 x3 r3 p3 q3 => ?_) (fun g3 c3 x3 => ?_)
    · have G3 := hbG S G
      have Gd3 := G3.2.1
      have er : g3 66 n = (c : Int) - ((r + 1 : Nat) : Int) := (r3 n (by omega)).trans hro
      refine x_ie h sp s n e hst hn hsp hs01 Q g3 (body S) x3 G3 k3 (by omega) h5 e8 em (by omega) (fun g4 x4 h66 => ⟨fun z => ?_, fun z => ?_⟩)
      · rw [er] at z
        have so0 := ((hag (r + 1) (body S) (by omega)).mp z).2
        rw [utF, if_pos ⟨c3, so0⟩] at k1 k2
        have q := ih (by omega) (body S) g4 (k3 + 1) x4 G3 c3 (by rw [h66, upD_at, er, zw1 (by omega) (by omega)]; omega) (by omega) (fun g' k' a1 a2 a3 a4 a5 => k1 g' k' a1 a2 (fun j hj => by rw [a3 j hj, h66, upD_ne (by omega)]; exact r3 j (by omega)) a4 (by omega)) k2
        rw [show ((n + 1 : Nat) : Int) = (n : Int) + 1 by omega] at q
        exact q
      · rw [er] at z
        have so0 : ¬ so (body S) = 0 := fun y => z ((hag (r + 1) (body S) (by omega)).mpr ⟨by omega, y⟩)
        rw [utF_stop (fun y => so0 y.2)] at k1
        have q := k1 g4 (k3 + 1) c3 x4 (fun j hj => by rw [h66, upD_ne (by omega)]; exact r3 j (by omega)) (by omega) (by omega)
        rw [show ((e + 1 : Nat) : Int) = (e : Int) + 1 by omega] at q
        exact q
    · rw [utF_stop (fun y => c3 y.1)] at k2
      exact k2 g3 c3 x3
/-- a block -/
theorem x_gob {h : zHp} {sp : Int} (hsp : h 32 2 = sp) (hs01 : sp = 0 ∨ sp = 1) {N : Nat} (hN : h 32 0 = (N : Int)) {s n e : Nat} (hnN : n < N) (heN : e < N) (hne : n < e) (hst : stO h s) (hn : stN2 h s n e) (h5 : 5 ≤ h 126 s) (e8 : h 33 e = 8) (em : h 38 e = (n : Int)) (body : aSt → aSt) (hbG : ∀ S, aG S → aG (body S)) (hb : ∀ (S : aSt) (g : zHp) (k : Int), xS h (h 123) S g → aG S → S.cut = 0 → 0 ≤ k ∧ k ≤ 22 * S.dn + 100 → xGo h N (n + 1) e S (body S) g k) {S : aSt} {g : zHp} {k : Int} (Hx : xS h (h 123) S g) (G : aG S) (hc : S.cut = 0) (hk : 0 ≤ k ∧ k ≤ 22 * S.dn + 100) : xGo h N n (e + 1) S (ex1 h sp body s S) g k := by
  intro Q k1 k2
  have Gd := G.2.1
  have so1 : soS h s (inc1 S) = 0 ∨ soS h s (inc1 S) = 1 := soV_01 _ _ _ _
  refine x_it h sp s n e hst hn hsp hs01 Q g S Hx G k (by omega) (by omega) (fun hd g' Hx' h66 => ?_) (fun hd g' Hx' => ?_)
  · rw [bsS_5 h5] at Hx'
    have Gi := inc1_G G hd
    have ci : (inc1 S).cut = 0 := hc
    have di : (inc1 S).dn = S.dn + 1 := rfl
    have ee : ((e + 1 : Nat) : Int) = (e : Int) + 1 := by omega
    have en : ((n + 1 : Nat) : Int) = (n : Int) + 1 := by omega
    have eT : ex1 h sp body s S = ex2 h sp body s (inc1 S) := by
      unfold ex1
      rw [if_neg hd]
    rw [eT] at k1 k2
    have h66j : ∀ j : Nat, j < n → g' 66 j = g 66 j := fun j hj => by
      rw [h66]
      unfold bsR
      split
      · exact upD_ne (by omega)
      · rfl
    have hst2 := id hst
    unfold stO at hst2
    unfold bsN
    rw [← di]
    by_cases q5 : h 126 s = 5
    · obtain ⟨c, hcc⟩ := Int.eq_ofNat_of_zero_le (show 0 ≤ h 127 s by omega)
      obtain ⟨c', rfl⟩ : ∃ c', c = c' + 1 := ⟨c - 1, by omega⟩
      have eU : ex2 h sp body s (inc1 S) = utF (fun _ => 0) body c' (body (inc1 S)) := by
        unfold ex2
        rw [if_neg (by omega), if_neg (by omega), if_neg (by omega), if_pos q5, hcc, Int.toNat_natCast, rpF_ut, utF, if_pos ⟨ci, rfl⟩]
      rw [eU] at k1 k2
      rw [if_neg (by omega), if_neg (by omega), ← en]
      refine x_lp hsp hs01 hN heN hst hn h5 e8 em body hbG hb (fun _ => 0) (c' + 1) (by omega) (fun r S3 hr => ?_) Q c' (by omega) (inc1 S) g' (k + 1) Hx' Gi ci ?_ (by omega) (fun g2 k3 a1 a2 a3 a4 a5 => k1 g2 k3 a1 a2 (fun j hj => (a3 j hj).trans (h66j j hj)) a4 (by omega)) k2
      · unfold agP
        rw [hcc]
        constructor
        · intro z
          exact ⟨by omega, rfl⟩
        · intro z
          exact Or.inl ⟨q5, by omega⟩
      · rw [h66]
        unfold bsR
        rw [if_pos (Or.inl q5), upD_at]
        omega
    · by_cases q6 : h 126 s = 6
      · have eU : ex2 h sp body s (inc1 S) = (if soS h s (inc1 S) = 1 then body (inc1 S) else inc1 S) := by
          unfold ex2
          rw [if_neg (by omega), if_neg (by omega), if_neg (by omega), if_neg q5, if_pos q6]
        rw [eU] at k1 k2
        rw [if_pos q6]
        by_cases z : soS h s (inc1 S) = 1
        · rw [if_pos z] at k1 k2
          rw [if_pos z, ← en]
          refine hb (inc1 S) g' (k + 1) Hx' Gi ci (by omega) Q (fun g3 k3 c3 x3 r3 p3 q3 => ?_) k2
          have G3 := hbG _ Gi
          have Gd3 := G3.2.1
          refine x_ie h sp s n e hst hn hsp hs01 Q g3 _ x3 G3 k3 (by omega) h5 e8 em (by omega) (fun g4 x4 h664 => ⟨fun y => ?_, fun y => ?_⟩)
          · unfold agP at y
            omega
          · rw [← ee]
            exact k1 g4 (k3 + 1) c3 x4 (fun j hj => by rw [h664, upD_ne (by omega), r3 j (by omega)]; exact h66j j hj) (by omega) (by omega)
        · rw [if_neg z] at k1 k2
          rw [if_neg z, ← ee]
          exact k1 g' (k + 1) ci Hx' h66j (by omega) (by omega)
      · have q7 : h 126 s = 7 := by omega
        have eU : ex2 h sp body s (inc1 S) = utF (soS h s) body 20 (inc1 S) := by
          unfold ex2
          rw [if_neg (by omega), if_neg (by omega), if_neg (by omega), if_neg q5, if_neg q6]
        rw [eU] at k1 k2
        rw [if_neg q6, if_pos q7]
        by_cases z : soS h s (inc1 S) = 1
        · rw [utF_stop (fun y => by omega)] at k1 k2
          rw [if_pos z, ← ee]
          exact k1 g' (k + 1) ci Hx' h66j (by omega) (by omega)
        · rw [utF, if_pos ⟨ci, by omega⟩] at k1 k2
          rw [if_neg z, ← en]
          refine x_lp hsp hs01 hN heN hst hn h5 e8 em body hbG hb (soS h s) 20 (by omega) (fun r S3 hr => ?_) Q 19 (by omega) (inc1 S) g' (k + 1) Hx' Gi ci ?_ (by omega) (fun g2 k3 a1 a2 a3 a4 a5 => k1 g2 k3 a1 a2 (fun j hj => (a3 j hj).trans (h66j j hj)) a4 (by omega)) k2
          · unfold agP
            constructor
            · intro y
              exact ⟨by omega, by omega⟩
            · intro y
              exact Or.inr ⟨q7, by omega, y.2⟩
          · rw [h66]
            unfold bsR
            rw [if_pos (Or.inr q7), upD_at]
            omega
  · have e : ex1 h sp body s S = cut1 S := by
      unfold ex1
      rw [if_pos hd]
    rw [e] at k2
    exact k2 g' (by show ¬ (1 : Int) = 0; omega) Hx'
