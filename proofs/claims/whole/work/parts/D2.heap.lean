-- the heap behind both constructors (written by wip/tools/spec in the shell; see gen_ctor.py)
def LX : List (Nat × Nat × Int) := [(0, 1, 1), (2, 0, 3), (2, 8, -1), (2, 9, -1), (0, 2, 2), (4, 2, 5), (4, 3, 6), (4, 4, 7), (4, 5, 8), (4, 8, 9), (4, 9, 10), (4, 10, 11), (4, 11, 12), (4, 12, 13), (0, 3, 4), (14, 2, 15), (14, 3, 16), (14, 4, 17), (14, 5, 18), (14, 8, 19), (14, 9, 20), (14, 10, 21), (14, 11, 22), (14, 12, 23), (0, 4, 14), (24, 0, 1), (24, 1, 25), (24, 2, 26), (24, 3, 27), (26, 0, 1), (27, 0, 1), (0, 5, 24), (28, 0, 1), (28, 1, 29), (28, 2, 30), (28, 3, 31), (30, 0, 1), (31, 0, 1), (0, 6, 28), (32, 3, 33), (32, 4, 34), (32, 5, 35), (32, 6, 36), (32, 7, 37), (32, 8, 38), (32, 9, 39), (0, 7, 32), (40, 3, 41), (40, 4, 42), (40, 5, 43), (40, 6, 44), (40, 7, 45), (40, 8, 46), (40, 9, 47), (0, 8, 40), (0, 9, 48), (0, 10, 49), (50, 2, 51), (50, 3, 52), (50, 4, 53), (50, 0, 4), (50, 1, 24), (0, 12, 50), (54, 6, 55), (54, 7, 56), (54, 11, 57), (54, 0, 4), (54, 1, 50), (0, 13, 54), (58, 0, 0), (58, 4, 59), (0, 14, 58), (60, 2, 61), (60, 3, 62), (60, 5, -1), (60, 0, 4), (60, 1, 50), (0, 15, 60), (63, 2, 64), (63, 5, 0), (63, 6, 1), (63, 0, 4), (63, 1, 50), (0, 16, 63), (65, 3, 66), (65, 0, 32), (65, 1, 4), (65, 2, 50), (0, 17, 65), (67, 3, 68), (1, 0, 67), (69, 3, 70), (1, 1, 69), (71, 3, 72), (1, 2, 71), (73, 3, 74), (1, 3, 73), (75, 2, 76), (75, 3, 77), (75, 4, 78), (75, 5, 79), (75, 8, 80), (75, 9, 81), (75, 10, 82), (75, 11, 83), (75, 12, 84), (48, 0, 75), (85, 0, 1), (85, 1, 86), (85, 2, 87), (85, 3, 88), (87, 0, 1), (88, 0, 1), (49, 0, 85), (89, 2, 90), (89, 3, 91), (89, 4, 92), (89, 5, 93), (89, 8, 94), (89, 9, 95), (89, 10, 96), (89, 11, 97), (89, 12, 98), (48, 1, 89), (99, 0, 1), (99, 1, 100), (99, 2, 101), (99, 3, 102), (101, 0, 1), (102, 0, 1), (49, 1, 99), (103, 2, 104), (103, 3, 105), (103, 4, 106), (103, 5, 107), (103, 8, 108), (103, 9, 109), (103, 10, 110), (103, 11, 111), (103, 12, 112), (48, 2, 103), (113, 0, 1), (113, 1, 114), (113, 2, 115), (113, 3, 116), (115, 0, 1), (116, 0, 1), (49, 2, 113)]
def LM : List (Nat × Nat × Int) := [(117, 3, 1), (117, 4, 118), (117, 5, 119), (117, 6, 120), (117, 7, 121), (117, 10, -1), (117, 11, -1), (117, 20, 122), (117, 21, 123), (117, 23, 124), (117, 24, 125), (117, 36, 126), (117, 37, 127), (117, 38, 128), (117, 39, 129), (117, 40, 130), (117, 41, 131), (117, 42, 132), (117, 43, 133), (117, 44, 134), (117, 45, 135), (117, 53, 136), (117, 54, 137), (117, 55, 138), (117, 61, -1), (117, 63, 139), (117, 69, 140), (117, 71, 141), (119, 0, -1), (119, 1, -1), (119, 2, -1), (119, 3, -1), (122, 240, 1)]
def hB : zHp := zups (zups zdf LX) LM
def h00 (sx : Nat → Int) (L : Int) : zHp := fun a => if a = 200 then sx else if a = 201 then (fun _ => L) else zdf a
def hZ (sx : Nat → Int) (L : Int) : zHp := zups (zups (h00 sx L) LX) LM
theorem zups_cg {a i : Nat} : ∀ (K : List (Nat × Nat × Int)) (h g : zHp), h a i = g a i → zups h K a i = zups g K a i := by
  intro K
  induction K with
  | nil => intro h g e; exact e
  | cons u K ih =>
    intro h g e
    show zups (zup h u.1 u.2.1 u.2.2) K a i = zups (zup g u.1 u.2.1 u.2.2) K a i
    refine ih _ _ ?_
    rw [zup_rd, zup_rd, e]
theorem zups_off {a : Nat} : ∀ (K : List (Nat × Nat × Int)) (h : zHp), (∀ u ∈ K, ¬ u.1 = a) → zups h K a = h a := by
  intro K
  induction K with
  | nil => intro h _; rfl
  | cons u K ih =>
    intro h hu
    show zups (zup h u.1 u.2.1 u.2.2) K a = h a
    rw [ih _ (fun v hv => hu v (List.mem_cons_of_mem _ hv)), zup_off (fun e => hu u List.mem_cons_self e.symm)]
theorem hZ_e (sx : Nat → Int) (L : Int) {a : Nat} (h1 : ¬ a = 200) (h2 : ¬ a = 201) : hZ sx L a = hB a := by
  funext i
  refine zups_cg LM _ _ (zups_cg LX _ _ ?_)
  unfold h00
  rw [if_neg h1, if_neg h2]
theorem hZ_2 (sx : Nat → Int) (L : Int) : hZ sx L 200 = sx ∧ hZ sx L 201 = (fun _ => L) := by
  unfold hZ
  rw [zups_off LM _ (by decide +kernel), zups_off LX _ (by decide +kernel), zups_off LM _ (by decide +kernel), zups_off LX _ (by decide +kernel)]
  exact ⟨rfl, rfl⟩
theorem hB_wd : ((List.range 142).all fun a => match zSH[a]? with | some (kd, sz) => (List.range sz).all (fun i => !zIsR (zTA kd i) || decide (hB a i = Int.ofNat (zRTa a i))) | none => true) = true := by decide +kernel
theorem hZ_wd (sx : Nat → Int) (L : Int) : zWd (hZ sx L) := by
  intro a i kd sz hs hi hr
  have ha := zsh_lt hs
  have q := List.all_eq_true.mp hB_wd a (List.mem_range.mpr ha)
  rw [hs] at q
  have q2 := List.all_eq_true.mp q i (List.mem_range.mpr hi)
  rw [hr] at q2
  rw [hZ_e sx L (by omega) (by omega)]
  simpa using q2
theorem hB_n : nN (hB 122) = 0 ∧ nS (hB 122) = 0 := by decide +kernel
theorem hB_dB : dB (hB 122) := by
  refine ⟨by decide +kernel, by decide +kernel, by decide +kernel, fun s k hs _ => ?_, fun s hs => ?_, fun k hk => ?_, by decide +kernel, ?_⟩
  · rw [hB_n.2] at hs; omega
  · rw [hB_n.2] at hs; omega
  · rw [hB_n.1] at hk; omega
  · decide +kernel
theorem hB_hall : hallR hB 4 (hB 122) (hB 123) := by
  refine ⟨hB_dB, by decide +kernel, by decide +kernel, by decide +kernel, by decide +kernel, fun k hk => ?_, fun s hs => ?_, fun s k hs _ => ?_, fun s k hs _ => ?_⟩
  · rw [hB_n.1] at hk; omega
  · rw [hB_n.2] at hs; omega
  · rw [hB_n.2] at hs; omega
  · rw [hB_n.2] at hs; omega
theorem hB_rule : ruleR hB 24 (hB 122) := by
  have e1 : hB 122 240 = 1 := by decide +kernel
  have e0 : hB 122 (241 + 0) = 0 := by decide +kernel
  refine ⟨by decide +kernel, fun c hc => ?_⟩
  rw [e1] at hc
  have c0 : c = 0 := by omega
  subst c0
  rw [e0]
  refine ⟨fun z => by omega, fun z => by omega, fun z => by omega, fun _ => ⟨by decide +kernel, 1, by omega, by decide +kernel, fun i hi => ?_, fun q hq => ?_⟩⟩
  · have i0 : i = 0 := by omega
    subst i0
    rw [eachP_0 e0, if_pos (show ((0 : Nat) : Int) = 0 from rfl)]
    decide +kernel
  · rw [eachP_0 e0, if_neg (by omega)]
theorem hB_tray : ∀ t : Nat, t < 4 → hB 119 t = -1 ∧ hB 118 t = 0 ∧ hB (67 + 2 * t) 0 = 0 := by decide +kernel
theorem hB_num : hB 0 0 = 0 ∧ hB 117 0 = 0 ∧ hB 2 1 = 0 ∧ hB 117 8 = 0 ∧ hB 2 8 = hB 117 10 ∧ hB 2 9 = hB 117 11 ∧ hB 58 0 = 0 ∧ hB 117 52 = 0 ∧ hB 60 4 = 0 ∧ hB 117 62 = 0 ∧ hB 0 11 = 0 ∧ hB 117 22 = 0 ∧ hB 65 4 = 0 ∧ hB 117 35 = 0 ∧ hB 117 26 = 0 ∧ hB 32 1 = 0 ∧ hB 32 0 = 0 ∧ hB 32 2 = 0 ∧ hB 117 33 = 0 ∧ hB 63 5 = hB 117 2 ∧ hB 63 6 = hB 117 3 := by decide +kernel
theorem hB_rel : Rel hB := by
  obtain ⟨a1, a2, a3, a4, a5, a6, a7, a8, a9, a10, a11, a12, a13, a14, a15, a16, a17, a18, a19, a20, a21⟩ := hB_num
  refine ⟨by rw [a1, a2], fun t ht => ?_, ⟨by rw [a3, a4], by omega, by omega, fun i hi => by omega, a5, a6⟩, ⟨by rw [a7, a8], Or.inl a8, fun z => absurd a8 z, fun z => by omega, fun z => by omega⟩, ⟨by rw [a9, a10], fun z => by omega⟩, ⟨hB_hall, hB_rule⟩, ⟨by rw [a11, a12], by omega, by omega, fun i hi => by omega⟩, ⟨by rw [a13, a14], fun z => by omega⟩, ⟨0, 0, a15, by omega, a16, a17, by omega, by rw [a18, a19], Or.inl a19, blk_0 _⟩, ⟨a20, a21⟩⟩
  have q := hB_tray t ht
  rw [q.1, q.2.1, q.2.2]
  exact ⟨by omega, by omega, rfl, fun z => by omega⟩
theorem hB_nB : nB hB := by unfold nB; decide +kernel
theorem hZ_rel (sx : Nat → Int) (L : Int) : Rel (hZ sx L) := by
  refine Rel.exL (L := [10]) (fun c c1 c2 cL a i hai => ?_) ?_ hB_rel (by simp) (by simp) (by simp) (by simp) (by simp) (by simp) (by simp) (by simp) (by simp)
  · have n10 : ¬ c = 10 := fun z => cL (by rw [z]; decide)
    rw [hZ_e sx L (fun z => n10 (by rw [z] at hai; exact hai.symm)) (fun z => n10 (by rw [z] at hai; exact hai.symm))]
  · rw [hZ_e sx L (by decide) (by decide), hZ_e sx L (by decide) (by decide), hB_num.1, hB_num.2.1]
theorem hZ_nB (sx : Nat → Int) (L : Int) : nB (hZ sx L) := nB_cg (fun j _ => by rw [hZ_e sx L (by decide) (by decide)]) hB_nB
