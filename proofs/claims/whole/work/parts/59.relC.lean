-- the relation behind mark and back
theorem obc_mk {c : Nat} (h1 : 75 ≤ c) (h2 : c ≤ 116) (i : Nat) : obc c i = 6 := by
  have : c = 75 ∨ c = 76 ∨ c = 77 ∨ c = 78 ∨ c = 79 ∨ c = 80 ∨ c = 81 ∨ c = 82 ∨ c = 83 ∨ c = 84 ∨ c = 85 ∨ c = 86 ∨ c = 87 ∨ c = 88 ∨ c = 89 ∨ c = 90 ∨ c = 91 ∨ c = 92 ∨ c = 93 ∨ c = 94 ∨ c = 95 ∨ c = 96 ∨ c = 97 ∨ c = 98 ∨ c = 99 ∨ c = 100 ∨ c = 101 ∨ c = 102 ∨ c = 103 ∨ c = 104 ∨ c = 105 ∨ c = 106 ∨ c = 107 ∨ c = 108 ∨ c = 109 ∨ c = 110 ∨ c = 111 ∨ c = 112 ∨ c = 113 ∨ c = 114 ∨ c = 115 ∨ c = 116 := by omega
  rcases this with rfl | rfl | rfl | rfl | rfl | rfl | rfl | rfl | rfl | rfl | rfl | rfl | rfl | rfl | rfl | rfl | rfl | rfl | rfl | rfl | rfl | rfl | rfl | rfl | rfl | rfl | rfl | rfl | rfl | rfl | rfl | rfl | rfl | rfl | rfl | rfl | rfl | rfl | rfl | rfl | rfl | rfl <;> rfl
theorem obc_hr {c : Nat} (h1 : 4 ≤ c ∧ c ≤ 13 ∨ 24 ≤ c ∧ c ≤ 27) (i : Nat) : obc c i = 5 := by
  have : c = 4 ∨ c = 5 ∨ c = 6 ∨ c = 7 ∨ c = 8 ∨ c = 9 ∨ c = 10 ∨ c = 11 ∨ c = 12 ∨ c = 13 ∨ c = 24 ∨ c = 25 ∨ c = 26 ∨ c = 27 := by omega
  rcases this with rfl | rfl | rfl | rfl | rfl | rfl | rfl | rfl | rfl | rfl | rfl | rfl | rfl | rfl <;> rfl
theorem obc_122 (i : Nat) : obc 122 i = if i < 300 then 5 else if i < 1200 then 6 else 10 := rfl
theorem obc_123 (i : Nat) : obc 123 i = if i < 8 then 5 else if i < 32 then 6 else 0 := rfl
theorem zEx.blk {L : List Nat} {h g f : zHp} (H : zEx L h g) (lo hi : Nat) (F : ∀ c : Nat, ¬ (lo ≤ c ∧ c ≤ hi) → f c = g c) (hc : ∀ c i : Nat, lo ≤ c → c ≤ hi → obc c i = 0 ∨ obc c i ∈ L) : zEx L h f := fun k h1 h2 h3 a i q => by
  by_cases e : lo ≤ a ∧ a ≤ hi
  · exfalso
    rcases hc a i e.1 e.2 with z | z
    · omega
    · rw [q] at z; exact h3 z
  · rw [F a e]
    exact H k h1 h2 h3 a i q
theorem zEx.cp {L : List Nat} {h g : zHp} {src sp dst dp cnt : Nat} (H : zEx L h g) (hc : ∀ i : Nat, dp ≤ i → i < dp + cnt → obc dst i = 0 ∨ obc dst i ∈ L) : zEx L h (zcp g src sp dst dp cnt) := fun k h1 h2 h3 a i q => by
  rw [zcp_rd]
  by_cases e : a = dst ∧ dp ≤ i ∧ i < dp + cnt
  · exfalso
    rcases hc i e.2.1 e.2.2 with z | z
    · rw [← e.1] at z; omega
    · rw [← e.1, q] at z; exact h3 z
  · rw [if_neg e]
    exact H k h1 h2 h3 a i q
theorem rel_mark {h h1 h2 : zHp} (H : Rel h) {m : Nat} (hm3 : m ≤ 3) (he : h 117 22 = (m : Int)) {v v' : Int}
    (hx : (m < 3 → ((m + 1 : Nat) : Int) = v ∧ ∃ g1 g2, cpH h (75 + 14 * m) 4 g1 ∧ cpR g1 (85 + 14 * m) 24 g2 ∧ zup (zup g2 0 11 ((m + 1 : Nat) : Int)) 0 0 0 = h1) ∧ (¬ m < 3 → pX0 h (-1, 7) v h1))
    (hm : (m < 3 → ((m + 1 : Nat) : Int) = v' ∧ zcp (zcp (zup (zup (zup h1 117 1 0) 117 0 0) 117 22 ((m + 1 : Nat) : Int)) 122 (300 * 0) 122 (300 * (m + 1)) 300) 123 (8 * 0) 123 (8 * (m + 1)) 8 = h2) ∧ (¬ m < 3 → pM0 h1 (-1, 7) v' h2)) : rOut h v v' h2 := by
  by_cases c : m < 3
  · obtain ⟨rfl, g1, g2, C1, C2, e1⟩ := hx.1 c
    obtain ⟨rfl, e2⟩ := hm.1 c
    clear hx hm
    obtain ⟨-, -, -, -, -, ⟨hh, hr⟩, ⟨m1, m2, m3, m4⟩, -⟩ := id H
    have hb := hh.1
    have F1 : ∀ a : Nat, ¬ a = 0 → ¬ (75 + 14 * m ≤ a ∧ a ≤ 75 + 14 * m + 13) → h1 a = h a := fun a ha hc => by rw [← e1, zup_off ha, zup_off ha, C2.1 a (by omega), C1.1 a (by omega)]
    have F2 : ∀ a : Nat, a < 117 → h2 a = h1 a := fun a ha => by rw [← e2, zcp_off (by omega), zcp_off (by omega), zup_off (by omega), zup_off (by omega), zup_off (by omega)]
    have F3 : ∀ a : Nat, 75 + 14 * m ≤ a → a ≤ 75 + 14 * m + 9 → h2 a = g1 a := fun a a1 a2 => by rw [F2 a (by omega), ← e1, zup_off (by omega), zup_off (by omega), C2.1 a (by omega)]
    have F4 : ∀ a : Nat, 85 + 14 * m ≤ a → a ≤ 85 + 14 * m + 3 → h2 a = g2 a := fun a a1 a2 => by rw [F2 a (by omega), ← e1, zup_off (by omega), zup_off (by omega)]
    have D1 : ∀ j : Nat, ¬ (300 * (m + 1) ≤ j ∧ j < 300 * (m + 1) + 300) → h2 122 j = h 122 j := fun j hj => by rw [← e2, zcp_off (by omega), zcp_rd, if_neg (by omega), zup_off (by omega), zup_off (by omega), zup_off (by omega), F1 122 (by omega) (by omega)]
    have D2 : ∀ j : Nat, j < 300 → h2 122 (300 * (m + 1) + j) = h 122 j := fun j hj => by rw [← e2, zcp_off (by omega), zcp_rd, if_pos (by omega), zup_off (by omega), zup_off (by omega), zup_off (by omega), F1 122 (by omega) (by omega), show 300 * 0 + (300 * (m + 1) + j - 300 * (m + 1)) = j by omega]
    have W1 : ∀ j : Nat, ¬ (8 * (m + 1) ≤ j ∧ j < 8 * (m + 1) + 8) → h2 123 j = h 123 j := fun j hj => by rw [← e2, zcp_rd, if_neg (by omega), zcp_off (by omega), zup_off (by omega), zup_off (by omega), zup_off (by omega), F1 123 (by omega) (by omega)]
    have W2 : ∀ j : Nat, j < 8 → h2 123 (8 * (m + 1) + j) = h 123 j := fun j hj => by rw [← e2, zcp_rd, if_pos (by omega), zcp_off (by omega), zup_off (by omega), zup_off (by omega), zup_off (by omega), F1 123 (by omega) (by omega), show 8 * 0 + (8 * (m + 1) + j - 8 * (m + 1)) = j by omega]
    have L1 : zEx [6] h h1 := by
      rw [← e1]
      refine zEx.up (zEx.up (zEx.blk (zEx.blk zEx.rf (75 + 14 * m) (75 + 14 * m + 9) C1.1 ?_) (85 + 14 * m) (85 + 14 * m + 3) C2.1 ?_) ?_) ?_
      · intro c i c1 c2; rw [obc_mk (by omega) (by omega)]; exact Or.inr (by decide)
      · intro c i c1 c2; rw [obc_mk (by omega) (by omega)]; exact Or.inr (by decide)
      · exact Or.inr (by decide)
      · exact Or.inl rfl
    have L : zEx [6] h h2 := by
      rw [← e2]
      refine zEx.cp (zEx.cp (zEx.up (zEx.up (zEx.up L1 ?_) ?_) ?_) ?_) ?_
      · exact Or.inl rfl
      · exact Or.inl rfl
      · exact Or.inr (by decide)
      · intro i i1 i2; rw [obc_122, if_neg (by omega), if_pos (by omega)]; exact Or.inr (by decide)
      · intro i i1 i2; rw [obc_123, if_neg (by omega), if_pos (by omega)]; exact Or.inr (by decide)
    have a0 : h2 0 0 = 0 := by rw [F2 0 (by omega), ← e1, zup_at]
    have a7 : h2 117 0 = 0 := by rw [← e2, zcp_off (by omega), zcp_off (by omega), zup_ne (by omega), zup_at]
    have a11 : h2 0 11 = ((m + 1 : Nat) : Int) := by rw [F2 0 (by omega), ← e1, zup_ne (by omega), zup_at]
    have a22 : h2 117 22 = ((m + 1 : Nat) : Int) := by rw [← e2, zcp_off (by omega), zcp_off (by omega), zup_at]
    refine ⟨rfl, Rel.exL L (by rw [a0, a7]) H (by simp) (by simp) (by simp) (by simp) (by simp) (fun _ => ?_) (by simp) (by simp) (by simp), ex200 L (by simp)⟩
    refine ⟨by rw [a11, a22], by rw [a22]; omega, by rw [a22]; omega, fun i hi => ?_⟩
    rw [a22] at hi
    by_cases e : i = m
    · subst e
      refine ⟨hallR_cg F3 (fun j _ => rfl) (fun k _ => rfl) (hallR_mv C1 D2 W2 hh), ruleR_cg (dB_cg D2 hb) F4 (fun j _ => rfl) (ruleR_mv C2 hb D2 (ruleR_cg hb (fun b b1 b2 => C1.1 b (by omega)) (fun j _ => rfl) hr))⟩
    · have q := m4 i (by omega)
      exact ⟨hallR_cg (fun b b1 b2 => by rw [F2 b (by omega), F1 b (by omega) (by omega)]) (fun j hj => D1 _ (by omega)) (fun k hk => W1 _ (by omega)) q.1, ruleR_cg q.1.1 (fun b b1 b2 => by rw [F2 b (by omega), F1 b (by omega) (by omega)]) (fun j hj => D1 _ (by omega)) q.2⟩
  · exact H.tell2 (hx.2 c) (hm.2 c)
theorem rel_back {h h1 h2 : zHp} (H : Rel h) {m : Nat} (hm3 : m ≤ 2) {z : Prop} (he : h 117 22 = (m : Int) + 1 ∧ z ∨ h 117 22 = 0 ∧ ¬ z) {v v' : Int}
    (hx : (z → (m : Int) = v ∧ ∃ g1 g2, cpH (zup h 0 11 (m : Int)) 4 (75 + 14 * m) g1 ∧ cpR g1 24 (85 + 14 * m) g2 ∧ zup g2 0 0 0 = h1) ∧ (¬ z → pX0 h (-1, 8) v h1))
    (hm : (z → (m : Int) = v' ∧ zup (zcp (zcp (zup (zup h1 117 1 0) 117 0 0) 122 (300 * (m + 1)) 122 (300 * 0) 300) 123 (8 * (m + 1)) 123 (8 * 0) 8) 117 22 (m : Int) = h2) ∧ (¬ z → pM0 h1 (-1, 8) v' h2)) : rOut h v v' h2 := by
  by_cases c : z
  · obtain ⟨rfl, g1, g2, C1, C2, e1⟩ := hx.1 c
    obtain ⟨rfl, e2⟩ := hm.1 c
    have he1 : h 117 22 = (m : Int) + 1 := by
      rcases he with q | q
      · exact q.1
      · exact absurd c q.2
    clear hx hm he
    obtain ⟨-, -, -, -, -, -, ⟨m1, m2, m3, m4⟩, -⟩ := id H
    have q := m4 m (by omega)
    have hb := q.1.1
    have F0 : ∀ a : Nat, ¬ a = 0 → ¬ (4 ≤ a ∧ a ≤ 13) → g1 a = h a := fun a ha hc => by rw [C1.1 a (by omega), zup_off ha]
    have F1 : ∀ a : Nat, ¬ a = 0 → ¬ (4 ≤ a ∧ a ≤ 13) → ¬ (24 ≤ a ∧ a ≤ 27) → h1 a = h a := fun a ha hc hc2 => by rw [← e1, zup_off ha, C2.1 a (by omega), F0 a ha hc]
    have F2 : ∀ a : Nat, a < 117 → h2 a = h1 a := fun a ha => by rw [← e2, zup_off (by omega), zcp_off (by omega), zcp_off (by omega), zup_off (by omega), zup_off (by omega)]
    have F3 : ∀ a : Nat, 4 ≤ a → a ≤ 4 + 9 → h2 a = g1 a := fun a a1 a2 => by rw [F2 a (by omega), ← e1, zup_off (by omega), C2.1 a (by omega)]
    have F4 : ∀ a : Nat, 24 ≤ a → a ≤ 24 + 3 → h2 a = g2 a := fun a a1 a2 => by rw [F2 a (by omega), ← e1, zup_off (by omega)]
    have D1 : ∀ j : Nat, 300 ≤ j → h2 122 j = h 122 j := fun j hj => by rw [← e2, zup_off (by omega), zcp_off (by omega), zcp_rd, if_neg (by omega), zup_off (by omega), zup_off (by omega), F1 122 (by omega) (by omega) (by omega)]
    have D2 : ∀ j : Nat, j < 300 → h2 122 j = h 122 (300 * (m + 1) + j) := fun j hj => by rw [← e2, zup_off (by omega), zcp_off (by omega), zcp_rd, if_pos (by omega), zup_off (by omega), zup_off (by omega), F1 122 (by omega) (by omega) (by omega), show 300 * (m + 1) + (j - 300 * 0) = 300 * (m + 1) + j by omega]
    have W1 : ∀ j : Nat, 8 ≤ j → h2 123 j = h 123 j := fun j hj => by rw [← e2, zup_off (by omega), zcp_rd, if_neg (by omega), zcp_off (by omega), zup_off (by omega), zup_off (by omega), F1 123 (by omega) (by omega) (by omega)]
    have W2 : ∀ j : Nat, j < 8 → h2 123 j = h 123 (8 * (m + 1) + j) := fun j hj => by rw [← e2, zup_off (by omega), zcp_rd, if_pos (by omega), zcp_off (by omega), zup_off (by omega), zup_off (by omega), F1 123 (by omega) (by omega) (by omega), show 8 * (m + 1) + (j - 8 * 0) = 8 * (m + 1) + j by omega]
    have L1 : zEx [5, 6] h h1 := by
      rw [← e1]
      refine zEx.up (zEx.blk (zEx.blk (zEx.up zEx.rf ?_) 4 (4 + 9) C1.1 ?_) 24 (24 + 3) C2.1 ?_) ?_
      · exact Or.inr (by decide)
      · intro c i c1 c2; rw [obc_hr (by omega)]; exact Or.inr (by decide)
      · intro c i c1 c2; rw [obc_hr (by omega)]; exact Or.inr (by decide)
      · exact Or.inl rfl
    have L : zEx [5, 6] h h2 := by
      rw [← e2]
      refine zEx.up (zEx.cp (zEx.cp (zEx.up (zEx.up L1 ?_) ?_) ?_) ?_) ?_
      · exact Or.inl rfl
      · exact Or.inl rfl
      · intro i i1 i2; rw [obc_122, if_pos (by omega)]; exact Or.inr (by decide)
      · intro i i1 i2; rw [obc_123, if_pos (by omega)]; exact Or.inr (by decide)
      · exact Or.inr (by decide)
    have a0 : h2 0 0 = 0 := by rw [F2 0 (by omega), ← e1, zup_at]
    have a7 : h2 117 0 = 0 := by rw [← e2, zup_ne (by omega), zcp_off (by omega), zcp_off (by omega), zup_at]
    have a11 : h2 0 11 = (m : Int) := by rw [F2 0 (by omega), ← e1, zup_ne (by omega), C2.1 0 (by omega), C1.1 0 (by omega), zup_at]
    have a22 : h2 117 22 = (m : Int) := by rw [← e2, zup_at]
    refine ⟨rfl, Rel.exL L (by rw [a0, a7]) H (by simp) (by simp) (by simp) (by simp) (fun _ => ?_) (fun _ => ?_) (by simp) (by simp) (by simp), ex200 L (by simp)⟩
    · have q1 : hallR (zup h 0 11 (m : Int)) (75 + 14 * m) (fun j => h 122 (300 * (m + 1) + j)) (fun k => h 123 (8 * (m + 1) + k)) := hallR_cg (fun b b1 b2 => zup_off (by omega)) (fun j _ => rfl) (fun k _ => rfl) q.1
      have q2 : ruleR g1 (85 + 14 * m) (fun j => h 122 (300 * (m + 1) + j)) := ruleR_cg hb (fun b b1 b2 => F0 b (by omega) (by omega)) (fun j _ => rfl) q.2
      exact ⟨hallR_cg F3 (fun j _ => rfl) (fun k _ => rfl) (hallR_mv C1 D2 W2 q1), ruleR_cg (dB_cg D2 hb) F4 (fun j _ => rfl) (ruleR_mv C2 hb D2 q2)⟩
    · refine ⟨by rw [a11, a22], by rw [a22]; omega, by rw [a22]; omega, fun i hi => ?_⟩
      rw [a22] at hi
      have q := m4 i (by omega)
      exact ⟨hallR_cg (fun b b1 b2 => by rw [F2 b (by omega), F1 b (by omega) (by omega) (by omega)]) (fun j hj => D1 _ (by omega)) (fun k hk => W1 _ (by omega)) q.1, ruleR_cg q.1.1 (fun b b1 b2 => by rw [F2 b (by omega), F1 b (by omega) (by omega) (by omega)]) (fun j hj => D1 _ (by omega)) q.2⟩
  · exact H.tell2 (hx.2 c) (hm.2 c)
