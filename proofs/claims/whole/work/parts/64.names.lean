-- names (written by wip/tools/specN1.py)
abbrev bet (cheap bm bc many cost : Int) : Prop := bm < 0 ∨ (cheap = 0 ∧ (many < bm ∨ (many = bm ∧ cost < bc))) ∨ (¬ cheap = 0 ∧ (cost < bc ∨ (cost = bc ∧ many < bm)))
abbrev aimQ (win a wn : Int) : Prop := (win = a ∧ wn = 1) ∨ (¬ win = a ∧ wn = 0)
def costS (D : Nat → Int) (x : Nat) : Nat → Int := fun k => bv x k * D (3 + k)
def nCost (D : Nat → Int) (x : Nat) : Int := sumN (costS D x) (nN D)
def badS (S : Nat) (kd : Int) (x : Nat) : Nat := if kd = 1 then x &&& S else if kd = 2 then x ^^^ (x &&& S) else 0
abbrev bst : Type := Int × Int × Int
def nmS (D : Nat → Int) (a wn kd cheap : Int) (x : Nat) (B : bst) : bst := if badS (D 2).toNat kd x = 0 ∧ bet cheap B.1 B.2.1 (popc x) (nCost D x) ∧ aimQ (winNow D ((D 2).toNat ^^^ x)) a wn then (popc x, nCost D x, (x : Int)) else B
def nmF (D : Nat → Int) (a wn kd cheap : Int) : Nat → bst
  | 0 => (-1, 0, 0)
  | x + 1 => nmS D a wn kd cheap x (nmF D a wn kd cheap x)
/-- number, cost and set are the best's, as far as there is one -/
def bR (n c s : Int) (B : bst) : Prop := n = B.1 ∧ -1 ≤ B.1 ∧ (0 ≤ B.1 → c = B.2.1 ∧ s = B.2.2)
theorem costS_b {D : Nat → Int} (hb : dB D) (x : Nat) {n : Nat} (hn : n ≤ nN D) : 0 ≤ sumN (costS D x) n ∧ sumN (costS D x) n ≤ 99 * n := by
  have := sumN_b (f := costS D x) (lo := 0) (hi := 99) n (fun k hk => by
    have q := hb.2.2.2.2.2.1 k (by omega)
    unfold costS
    rcases bv_01 x k with e | e <;> rw [e] <;> omega)
  omega
theorem bet_cg {cheap bm bc bc' many cost : Int} (h : 0 ≤ bm → bc = bc') : bet cheap bm bc many cost ↔ bet cheap bm bc' many cost := by
  unfold bet
  by_cases q : 0 ≤ bm
  · rw [h q]
  · constructor <;> intro _ <;> exact Or.inl (by omega)
theorem bR_0 {n c s : Int} {D : Nat → Int} {a wn kd cheap : Int} (h : n = -1) : bR n c s (nmF D a wn kd cheap 0) := ⟨h, by show (-1 : Int) ≤ -1; omega, fun q => absurd q (by show ¬ (0 : Int) ≤ -1; omega)⟩
theorem nmF_s (D : Nat → Int) (a wn kd cheap : Int) (x : Nat) : nmF D a wn kd cheap (x + 1) = nmS D a wn kd cheap x (nmF D a wn kd cheap x) := rfl
theorem winNow_W (D : Nat → Int) (set : Nat) : winNow D set = winW D (inOf D) set := rfl
def betD (cheap bm bc many cost : Int) : Prop := bet cheap bm bc many cost
def aimD (win a wn : Int) : Prop := aimQ win a wn
theorem nmS_bR {D : Nat → Int} {a wn kd cheap : Int} {x : Nat} (hx : x < 256) {n c s : Int} (R : bR n c s (nmF D a wn kd cheap x)) : (badS (D 2).toNat kd x = 0 ∧ betD cheap n c (popc x) (nCost D x) ∧ aimD (winNow D ((D 2).toNat ^^^ x)) a wn → bR (popc x) (nCost D x) x (nmF D a wn kd cheap (x + 1))) ∧ (¬ (badS (D 2).toNat kd x = 0 ∧ betD cheap n c (popc x) (nCost D x) ∧ aimD (winNow D ((D 2).toNat ^^^ x)) a wn) → bR n c s (nmF D a wn kd cheap (x + 1))) := by
  rw [nmF_s]
  unfold betD aimD
  generalize nmF D a wn kd cheap x = B at R ⊢
  obtain ⟨r1, r2, r3⟩ := R
  have hp := popc_b x hx
  have e : bet cheap n c (popc x) (nCost D x) ↔ bet cheap B.1 B.2.1 (popc x) (nCost D x) := by
    rw [r1]
    exact bet_cg (fun q => (r3 q).1)
  rw [e]
  unfold nmS
  refine ⟨fun q => ?_, fun q => ?_⟩
  · rw [if_pos q]
    exact ⟨rfl, by show -1 ≤ popc x; omega, fun _ => ⟨rfl, rfl⟩⟩
  · rw [if_neg q]
    exact ⟨r1, r2, r3⟩
theorem badX1 {S n x : Nat} (hS : S < 2 ^ n) (hx : x < 2 ^ n) : x ^^^ (x &&& (((2 ^ n - 1) ^^^ ((2 ^ n - 1) &&& S)) ||| 0)) = x &&& S := by
  apply Nat.eq_of_testBit_eq
  intro i
  rw [Nat.or_zero, Nat.testBit_xor, Nat.testBit_and, Nat.testBit_xor, Nat.testBit_and, Nat.testBit_and, Nat.testBit_two_pow_sub_one]
  by_cases q : i < n
  · rw [decide_eq_true q]
    cases x.testBit i <;> cases S.testBit i <;> rfl
  · rw [Nat.testBit_lt_two_pow (Nat.lt_of_lt_of_le hx (Nat.pow_le_pow_right (by omega) (by omega))), Nat.testBit_lt_two_pow (Nat.lt_of_lt_of_le hS (Nat.pow_le_pow_right (by omega) (by omega)))]
    simp
theorem badX3 {S n x : Nat} (hx : x < 2 ^ n) : x ^^^ (x &&& (((2 ^ n - 1) ^^^ ((2 ^ n - 1) &&& S)) ||| S)) = 0 := by
  apply Nat.eq_of_testBit_eq
  intro i
  rw [Nat.testBit_xor, Nat.testBit_and, Nat.testBit_or, Nat.testBit_xor, Nat.testBit_and, Nat.testBit_two_pow_sub_one, Nat.zero_testBit]
  by_cases q : i < n
  · rw [decide_eq_true q]
    cases x.testBit i <;> cases S.testBit i <;> rfl
  · rw [Nat.testBit_lt_two_pow (Nat.lt_of_lt_of_le hx (Nat.pow_le_pow_right (by omega) (by omega)))]
    simp
theorem badM1 {S x : Nat} (hx : x < 2147483648) : zand (x : Int) (zxor (zor (zxor (S : Int) (-1)) 0) (-1)) = ((x &&& S : Nat) : Int) := by
  unfold zand zxor zor
  simp only [Int32.ofInt_toInt]
  rw [show Int32.ofInt (x : Int) &&& ((Int32.ofInt (S : Int) ^^^ Int32.ofInt (-1) ||| Int32.ofInt 0) ^^^ Int32.ofInt (-1)) = nI (x &&& S) from b_ext (fun i hi => by
    rw [b_and, b_xor, b_or, b_xor, kb_m1 i hi, kb_nI, kb_nI, show Int32.ofInt 0 = nI 0 from rfl, kb_bt _ _ hi, kb_bt _ _ hi, kb_bt _ _ hi, kb_bt _ _ hi, Nat.zero_testBit, Nat.testBit_and]
    cases x.testBit i <;> cases S.testBit i <;> rfl), kb_ti (Nat.lt_of_le_of_lt Nat.and_le_left hx)]
theorem badM3 {S x : Nat} : zand (x : Int) (zxor (zor (zxor (S : Int) (-1)) (S : Int)) (-1)) = 0 := by
  unfold zand zxor zor
  simp only [Int32.ofInt_toInt]
  rw [show Int32.ofInt (x : Int) &&& ((Int32.ofInt (S : Int) ^^^ Int32.ofInt (-1) ||| Int32.ofInt (S : Int)) ^^^ Int32.ofInt (-1)) = nI 0 from b_ext (fun i hi => by
    rw [b_and, b_xor, b_or, b_xor, kb_m1 i hi, kb_nI, kb_nI, kb_bt _ _ hi, kb_bt _ _ hi, kb_bt _ _ hi, Nat.zero_testBit]
    cases x.testBit i <;> cases S.testBit i <;> rfl)]
  decide
theorem badM2 {S x : Nat} (hx : x < 2147483648) (hS : S < 2147483648) : zand (x : Int) (zxor (zor 0 (S : Int)) (-1)) = ((x ^^^ (x &&& S) : Nat) : Int) := by
  rw [show (0 : Int) = ((0 : Nat) : Int) from rfl, kb_or (by omega) hS, Nat.zero_or, kb_andn hx]
theorem kd1 : zand 1 1 = 1 ∧ zand 2 1 = 0 ∧ zand 3 1 = 1 ∧ zand 1 2 = 0 ∧ zand 2 2 = 2 ∧ zand 3 2 = 2 := by decide
theorem kdA {kd : Int} (h : kd = 1 ∨ kd = 2 ∨ kd = 3) : (zand kd 1 = 0 ↔ kd = 2) ∧ (zand kd 1 = 1 ↔ ¬ kd = 2) ∧ (zand kd 2 = 0 ↔ kd = 1) ∧ (zand kd 2 = 2 ↔ ¬ kd = 1) := by
  obtain ⟨a, b, c, d, e, f⟩ := kd1
  rcases h with rfl | rfl | rfl
  · rw [a, d]; omega
  · rw [b, e]; omega
  · rw [c, f]; omega

theorem x_isBetter (h : zHp) (hn : -1 ≤ h 54 8) (many cost cheap : Int) : zCi mX8_isBetter 0 [zA 54, zI many, zI cost, zI cheap] h (fun v h' => (if bet cheap (h 54 8) (h 54 9) many cost then 1 else 0) = v ∧ h = h') := by
  refine z_enter [zA 54, zI many, zI cost, zI cheap] (by decide +kernel) (Nat.le_of_ble_eq_true rfl) rfl (fun hra hrg => ?_)
  refine z_al0 eX8_isBetter_0 ?_
  refine z_gi eX8_isBetter_1 fX8_40 zs54 ?_
  refine z_ki eX8_isBetter_4 ?_
  refine z_cne eX8_isBetter_5 rfl (fun c5 => ?_) (fun c5 => ?_)
  · refine z_il3 eX8_isBetter_10 ?_
    refine z_ieq eX8_isBetter_11 rfl (fun c11 => ?_) (fun c11 => ?_)
    · refine z_il1 eX8_isBetter_44 ?_
      refine z_al0 eX8_isBetter_45 ?_
      refine z_gi eX8_isBetter_46 fX8_40 zs54 ?_
      refine z_clt eX8_isBetter_49 rfl (fun c49 => ?_) (fun c49 => ?_)
      · refine z_ki eX8_isBetter_68 ?_
        refine z_goto eX8_isBetter_69 rfl ?_
        refine ze_z eX8_isBetter_73 rfl (by first | exact Or.inl rfl | exact Or.inr rfl) ?_
        refine ⟨?_, rfl⟩
        first | (rw [if_pos (by unfold bet; omega)]; done) | (rw [if_neg (by unfold bet; omega)]; done)
      · refine z_il1 eX8_isBetter_52 ?_
        refine z_al0 eX8_isBetter_53 ?_
        refine z_gi eX8_isBetter_54 fX8_40 zs54 ?_
        refine z_cne eX8_isBetter_57 rfl (fun c57 => ?_) (fun c57 => ?_)
        · refine z_ki eX8_isBetter_72 ?_
          refine ze_z eX8_isBetter_73 rfl (by first | exact Or.inl rfl | exact Or.inr rfl) ?_
          refine ⟨?_, rfl⟩
          first | (rw [if_pos (by unfold bet; omega)]; done) | (rw [if_neg (by unfold bet; omega)]; done)
        · refine z_il2 eX8_isBetter_60 ?_
          refine z_al0 eX8_isBetter_61 ?_
          refine z_gi eX8_isBetter_62 fX8_74 zs54 ?_
          refine z_cge eX8_isBetter_65 rfl (fun c65 => ?_) (fun c65 => ?_)
          · refine z_ki eX8_isBetter_72 ?_
            refine ze_z eX8_isBetter_73 rfl (by first | exact Or.inl rfl | exact Or.inr rfl) ?_
            refine ⟨?_, rfl⟩
            first | (rw [if_pos (by unfold bet; omega)]; done) | (rw [if_neg (by unfold bet; omega)]; done)
          · refine z_ki eX8_isBetter_68 ?_
            refine z_goto eX8_isBetter_69 rfl ?_
            refine ze_z eX8_isBetter_73 rfl (by first | exact Or.inl rfl | exact Or.inr rfl) ?_
            refine ⟨?_, rfl⟩
            first | (rw [if_pos (by unfold bet; omega)]; done) | (rw [if_neg (by unfold bet; omega)]; done)
    · refine z_il2 eX8_isBetter_14 ?_
      refine z_al0 eX8_isBetter_15 ?_
      refine z_gi eX8_isBetter_16 fX8_74 zs54 ?_
      refine z_clt eX8_isBetter_19 rfl (fun c19 => ?_) (fun c19 => ?_)
      · refine z_ki eX8_isBetter_38 ?_
        refine z_goto eX8_isBetter_39 rfl ?_
        refine ze_z eX8_isBetter_43 rfl (by first | exact Or.inl rfl | exact Or.inr rfl) ?_
        refine ⟨?_, rfl⟩
        first | (rw [if_pos (by unfold bet; omega)]; done) | (rw [if_neg (by unfold bet; omega)]; done)
      · refine z_il2 eX8_isBetter_22 ?_
        refine z_al0 eX8_isBetter_23 ?_
        refine z_gi eX8_isBetter_24 fX8_74 zs54 ?_
        refine z_cne eX8_isBetter_27 rfl (fun c27 => ?_) (fun c27 => ?_)
        · refine z_ki eX8_isBetter_42 ?_
          refine ze_z eX8_isBetter_43 rfl (by first | exact Or.inl rfl | exact Or.inr rfl) ?_
          refine ⟨?_, rfl⟩
          first | (rw [if_pos (by unfold bet; omega)]; done) | (rw [if_neg (by unfold bet; omega)]; done)
        · refine z_il1 eX8_isBetter_30 ?_
          refine z_al0 eX8_isBetter_31 ?_
          refine z_gi eX8_isBetter_32 fX8_40 zs54 ?_
          refine z_cge eX8_isBetter_35 rfl (fun c35 => ?_) (fun c35 => ?_)
          · refine z_ki eX8_isBetter_42 ?_
            refine ze_z eX8_isBetter_43 rfl (by first | exact Or.inl rfl | exact Or.inr rfl) ?_
            refine ⟨?_, rfl⟩
            first | (rw [if_pos (by unfold bet; omega)]; done) | (rw [if_neg (by unfold bet; omega)]; done)
          · refine z_ki eX8_isBetter_38 ?_
            refine z_goto eX8_isBetter_39 rfl ?_
            refine ze_z eX8_isBetter_43 rfl (by first | exact Or.inl rfl | exact Or.inr rfl) ?_
            refine ⟨?_, rfl⟩
            first | (rw [if_pos (by unfold bet; omega)]; done) | (rw [if_neg (by unfold bet; omega)]; done)
  · refine z_ki eX8_isBetter_8 ?_
    refine ze_z eX8_isBetter_9 rfl (by first | exact Or.inl rfl | exact Or.inr rfl) ?_
    refine ⟨?_, rfl⟩
    first | (rw [if_pos (by unfold bet; omega)]; done) | (rw [if_neg (by unfold bet; omega)]; done)
theorem x_aim (h : zHp) (a wn kd : Int) (hw : wn = 0 ∨ wn = 1) : zCv mX8_aim 0 [zA 54, zI a, zI wn, zI kd] h (fun h' => zup (zup (zup (zup h 54 2 a) 54 3 wn) 54 4 kd) 54 8 (-1) = h') := by
  refine z_enter [zA 54, zI a, zI wn, zI kd] (by decide +kernel) (Nat.le_of_ble_eq_true rfl) rfl (fun hra hrg => ?_)
  refine z_al0 eX8_aim_0 ?_
  refine z_il1 eX8_aim_1 ?_
  refine z_pi eX8_aim_2 pX8_29 zs54 ?_
  refine z_al0 eX8_aim_5 ?_
  refine z_il2 eX8_aim_6 ?_
  refine z_pz eX8_aim_7 pX8_33 zs54 (by exact hw) ?_
  refine z_al0 eX8_aim_10 ?_
  refine z_il3 eX8_aim_11 ?_
  refine z_pi eX8_aim_12 pX8_37 zs54 ?_
  refine z_al0 eX8_aim_15 ?_
  refine z_ki eX8_aim_16 ?_
  refine z_pi eX8_aim_17 pX8_40 zs54 ?_
  refine ze_v eX8_aim_20 rfl ?_
  rfl
theorem x_costN_l (h : zHp) (D : Nat → Int) (hb : dB D) (h40 : h 4 0 = D 0) (h6 : ∀ k : Nat, k < nN D → h 6 k = D (3 + k)) (x : Nat) (hx : x < 2147483648) : ∀ (r k : Nat), k + r = nN D → zRW mX8_costOfNames 0 (0, 0) 4 [zA 54, zI x, zI (sumN (costS D x) k), zI k] [] 143 h (zqi (fun v h' => nCost D x = v ∧ h = h')) := by
  have hN := nN_eq hb
  have hN8 := nN_le hb
  intro r
  induction r using Nat.strongRecOn with
  | ind r ih =>
    intro k hk
    have hsb := costS_b hb x (show k ≤ nN D by omega)
    refine z_il3 eX8_costOfNames_4 ?_
    refine z_al0 eX8_costOfNames_5 ?_
    refine z_ga eX8_costOfNames_6 fX8_21 zs54 (t := 4) rfl ?_
    refine z_gi eX8_costOfNames_9 fX8_80 zs4 ?_
    refine z_cge eX8_costOfNames_12 rfl (fun c12 => ?_) (fun c12 => ?_)
    · refine z_il2 eX8_costOfNames_45 ?_
      refine ze_i eX8_costOfNames_46 rfl ?_
      have e : k = nN D := by omega
      subst e
      exact ⟨rfl, rfl⟩
    · have hc := hb.2.2.2.2.2.1 k (by omega)
      refine z_il2 eX8_costOfNames_15 ?_
      refine z_il1 eX8_costOfNames_16 ?_
      refine z_il3 eX8_costOfNames_17 ?_
      refine z_ishr eX8_costOfNames_18 ?_
      refine z_ki eX8_costOfNames_19 ?_
      refine z_iand eX8_costOfNames_20 ?_
      rw [kb_bit hx (by omega)]
      refine z_ieq eX8_costOfNames_21 rfl (fun c21 => ?_) (fun c21 => ?_)
      · have z21 := iteF c21
        refine z_ki eX8_costOfNames_36 ?_
        refine z_iaddN eX8_costOfNames_37 (by omega) (by omega) ?_
        refine z_is2 eX8_costOfNames_38 zn0 ?_
        refine z_incN3 eX8_costOfNames_39 zn0 (by omega) (by omega) ?_
        refine z_goto eX8_costOfNames_42 rfl ?_
        rw [show sumN (costS D x) k + 0 = sumN (costS D x) (k + 1) by
          rw [sumN]; unfold costS bv; rw [if_neg z21, Int.zero_mul]]
        exact ih (r - 1) (by omega) (k + 1) (by omega)
      · have z21 := iteT c21
        refine z_al0 eX8_costOfNames_24 ?_
        refine z_ga eX8_costOfNames_25 fX8_21 zs54 (t := 4) rfl ?_
        refine z_ga eX8_costOfNames_28 fX8_83 zs4 (t := 6) rfl ?_
        refine z_il3 eX8_costOfNames_31 ?_
        refine zr_iN eX8_costOfNames_32 zs6 (j := k) (by omega) (by omega) ?_
        refine z_goto eX8_costOfNames_33 rfl ?_
        rw [h6 k (by omega)]
        refine z_iaddN eX8_costOfNames_37 (by omega) (by omega) ?_
        refine z_is2 eX8_costOfNames_38 zn0 ?_
        refine z_incN3 eX8_costOfNames_39 zn0 (by omega) (by omega) ?_
        refine z_goto eX8_costOfNames_42 rfl ?_
        rw [show sumN (costS D x) k + D (3 + k) = sumN (costS D x) (k + 1) by
          rw [sumN]; unfold costS bv; rw [if_pos z21, Int.one_mul]]
        exact ih (r - 1) (by omega) (k + 1) (by omega)
theorem x_costN (h : zHp) (D : Nat → Int) (hb : dB D) (h40 : h 4 0 = D 0) (h6 : ∀ k : Nat, k < nN D → h 6 k = D (3 + k)) (x : Nat) (hx : x < 2147483648) : zCi mX8_costOfNames 0 [zA 54, zI x] h (fun v h' => nCost D x = v ∧ h = h') := by
  refine z_enter [zA 54, zI x, zU, zU] (by decide +kernel) (Nat.le_of_ble_eq_true rfl) rfl (fun hra hrg => ?_)
  refine z_ki eX8_costOfNames_0 ?_
  refine z_is2 eX8_costOfNames_1 zn0 ?_
  refine z_ki eX8_costOfNames_2 ?_
  refine z_is3 eX8_costOfNames_3 zn0 ?_
  exact x_costN_l h D hb h40 h6 x hx _ 0 (Nat.zero_add _)
theorem x_byN_l (h : zHp) (H : rHR h) (D : Nat → Int) (hD : h 122 = D) (a wn kd cheap my : Int) (hwn : wn = 0 ∨ wn = 1) (hmy : ∀ x : Nat, x < 2 ^ nN D → zand (x : Int) (zxor my (-1)) = (badS (D 2).toNat kd x : Int)) : ∀ (r x : Nat) (g : zHp), x + r = 2 ^ nN D → zXf h g → (g 54 2 = a ∧ g 54 3 = wn) → bR (g 54 8) (g 54 9) (g 54 10) (nmF D a wn kd cheap x) → zRW mX8_byNames 4 (0, 0) 57 [zA 54, zI cheap, zI ((2 ^ nN D - 1 : Nat) : Int), zI my, zI x, zU, zU] [] 143 g (zqi (fun v h' => (if 0 ≤ (nmF D a wn kd cheap (2 ^ nN D)).1 then 1 else 0) = v ∧ zXf h h' ∧ bR (h' 54 8) (h' 54 9) (h' 54 10) (nmF D a wn kd cheap (2 ^ nN D)))) := by
  intro r
  induction r using Nat.strongRecOn with
  | ind r ih =>
    intro x g hs hg hk R
    have Hg := H.xf hg
    have e122 : g 122 = D := (hg.2.1 122 (by omega)).trans hD
    obtain ⟨⟨hb, hst, e0, e1, e7, ek, es, eo, hp⟩, hru⟩ : hallR g 4 D (g 123) ∧ ruleR g 24 D := by rw [← e122]; exact Hg
    have hN := nN_eq hb
    have hS := nS_eq hb
    have hN8 := nN_le hb
    have hS20 := nS_le hb
    have hb2 := hb.2.2.1
    have h256 := p2le hN8
    have hpp := Nat.two_pow_pos (nN D)
    obtain ⟨k2, k3⟩ := hk
    refine z_il4 eX8_byNames_57 ?_
    refine z_il2 eX8_byNames_59 ?_
    refine z_cgt eX8_byNames_60 rfl (fun c60 => ?_) (fun c60 => ?_)
    · refine z_al0 eX8_byNames_169 ?_
      refine z_gi eX8_byNames_170 fX8_40 zs54 ?_
      refine z_ki eX8_byNames_173 ?_
      refine z_ceq eX8_byNames_174 rfl (fun c174 => ?_) (fun c174 => ?_)
      · refine z_ki eX8_byNames_181 ?_
        refine ze_z eX8_byNames_182 rfl (by first | exact Or.inl rfl | exact Or.inr rfl) ?_
        have e : x = 2 ^ nN D := by omega
        subst e
        have r1 := R.1
        have r2 := R.2.1
        exact ⟨if_neg (by omega), hg, R⟩
      · refine z_ki eX8_byNames_177 ?_
        refine z_goto eX8_byNames_178 rfl ?_
        refine ze_z eX8_byNames_182 rfl (by first | exact Or.inl rfl | exact Or.inr rfl) ?_
        have e : x = 2 ^ nN D := by omega
        subst e
        have r1 := R.1
        have r2 := R.2.1
        exact ⟨if_pos (by omega), hg, R⟩
    · have hcb := costS_b hb x (Nat.le_refl (nN D))
      refine z_il4 eX8_byNames_63 ?_
      refine zc_si1 eX8_byNames_65 lX8_52 tJ6_bitCount_0f7a4 (by decide) (Nat.le_of_ble_eq_true rfl) (j_bit _ x (by omega)) ?_
      rintro _ _ ⟨rfl, rfl⟩ -
      refine z_is5 eX8_byNames_68 zn0 ?_
      refine z_al0 eX8_byNames_70 ?_
      refine z_il4 eX8_byNames_71 ?_
      refine zc_vi1 eX8_byNames_73 lX8_58 tX8_costOfNames zs54 (by decide) (Nat.le_of_ble_eq_true rfl) (x_costN g D hb e0 (fun k hk => (ek k hk).2.1) x (by omega)) ?_
      rintro _ _ ⟨rfl, rfl⟩ -
      refine z_is6 eX8_byNames_76 zn0 ?_
      refine z_il4 eX8_byNames_78 ?_
      refine z_il3 eX8_byNames_80 ?_
      refine z_ki eX8_byNames_81 ?_
      refine z_ixor eX8_byNames_82 ?_
      refine z_iand eX8_byNames_83 ?_
      rw [hmy x (by omega)]
      refine z_ine eX8_byNames_84 rfl (fun c84 => ?_) (fun c84 => ?_)
      · refine z_incN4 eX8_byNames_163 zn0 (by omega) (by omega) ?_
        refine z_goto eX8_byNames_166 rfl ?_
        refine z_fg5 ?_
        refine z_fg6 ?_
        exact ih (r - 1) (by omega) (x + 1) g (by omega) hg ⟨k2, k3⟩ ((nmS_bR (D := D) (a := a) (wn := wn) (kd := kd) (cheap := cheap) (x := x) (by omega) R).2 (fun z => c84 (by rw [z.1]; rfl)))
      · refine z_al0 eX8_byNames_87 ?_
        refine z_il5 eX8_byNames_88 ?_
        refine z_il6 eX8_byNames_90 ?_
        refine z_il1 eX8_byNames_92 ?_
        refine zc_vi3 eX8_byNames_93 lX8_61 tX8_isBetter zs54 (by decide) (Nat.le_of_ble_eq_true rfl) (x_isBetter g (by have := R.2.1; have := R.1; omega) _ _ _) ?_
        rintro _ _ ⟨rfl, rfl⟩ -
        refine z_ine eX8_byNames_96 rfl (fun c96 => ?_) (fun c96 => ?_)
        · have z96 := iteT c96
          replace z96 : betD _ _ _ _ _ := z96
          clear c96
          refine z_al0 eX8_byNames_102 ?_
          refine z_ga eX8_byNames_103 fX8_25 zs54 (t := 50) rfl ?_
          refine z_al0 eX8_byNames_106 ?_
          refine z_ga eX8_byNames_107 fX8_21 zs54 (t := 4) rfl ?_
          refine z_gi eX8_byNames_110 fX8_49 zs4 ?_
          refine z_il4 eX8_byNames_113 ?_
          refine z_ixor eX8_byNames_115 ?_
          rw [e1, stN hb, kb_xor (by omega) (by omega)]
          refine z_al0 eX8_byNames_116 ?_
          refine z_ga eX8_byNames_117 fX8_21 zs54 (t := 4) rfl ?_
          refine z_ga eX8_byNames_120 fX8_65 zs4 (t := 9) rfl ?_
          refine zc_vi2 eX8_byNames_123 lX8_68 tX2_winnerOf zs50 (by decide) (Nat.le_of_ble_eq_true rfl) (x_winD Hg e122 _ (Nat.xor_lt_two_pow (stL hb hst) (by omega))) ?_
          rintro _ g2 ⟨rfl, hfr⟩ -
          have hg2 : zXf h g2 := hg.fr hfr (by decide) (fun _ => rfl)
          have f54 : g2 54 = g 54 := hfr 54 (by decide)
          refine z_al0 eX8_byNames_126 ?_
          refine z_gi eX8_byNames_127 fX8_29 zs54 ?_
          rw [hfr 54 (by decide), k2]
          refine z_cne eX8_byNames_130 rfl (fun c130 => ?_) (fun c130 => ?_)
          · refine z_ki eX8_byNames_137 ?_
            refine z_al0 eX8_byNames_138 ?_
            refine z_gi eX8_byNames_139 fX8_33 zs54 ?_
            rw [hfr 54 (by decide), k3]
            refine z_cne eX8_byNames_142 rfl (fun c142 => ?_) (fun c142 => ?_)
            · refine z_incN4 eX8_byNames_163 zn0 (by omega) (by omega) ?_
              refine z_goto eX8_byNames_166 rfl ?_
              refine z_fg5 ?_
              refine z_fg6 ?_
              exact ih (r - 1) (by omega) (x + 1) g2 (by omega) hg2 (by rw [f54]; exact ⟨k2, k3⟩) (by rw [f54]; exact (nmS_bR (D := D) (a := a) (wn := wn) (kd := kd) (cheap := cheap) (x := x) (by omega) R).2 (fun z => by have z3 := z.2.2; unfold aimD aimQ at z3; omega))
            · refine z_al0 eX8_byNames_145 ?_
              refine z_il5 eX8_byNames_146 ?_
              refine z_pi eX8_byNames_148 pX8_40 zs54 ?_
              refine z_al0 eX8_byNames_151 ?_
              refine z_il6 eX8_byNames_152 ?_
              refine z_pi eX8_byNames_154 pX8_74 zs54 ?_
              refine z_al0 eX8_byNames_157 ?_
              refine z_il4 eX8_byNames_158 ?_
              refine z_pi eX8_byNames_160 pX8_77 zs54 ?_
              refine z_incN4 eX8_byNames_163 zn0 (by omega) (by omega) ?_
              refine z_goto eX8_byNames_166 rfl ?_
              refine z_fg5 ?_
              refine z_fg6 ?_
              refine ih (r - 1) (by omega) (x + 1) _ (by omega) (((hg2.up (by omega) (by omega) rfl).up (by omega) (by omega) rfl).up (by omega) (by omega) rfl) ?_ ?_
              · rw [zup_ne (by decide), zup_ne (by decide), zup_ne (by decide), zup_ne (by decide), zup_ne (by decide), zup_ne (by decide), f54]
                exact ⟨k2, k3⟩
              · rw [zup_ne (show ¬ (54 = 54 ∧ 8 = 10) by decide), zup_ne (show ¬ (54 = 54 ∧ 8 = 9) by decide), zup_at, zup_ne (show ¬ (54 = 54 ∧ 9 = 10) by decide), zup_at, zup_at]
                exact (nmS_bR (D := D) (a := a) (wn := wn) (kd := kd) (cheap := cheap) (x := x) (by omega) R).1 ⟨by omega, z96, by unfold aimD aimQ; omega⟩
          · refine z_ki eX8_byNames_133 ?_
            refine z_goto eX8_byNames_134 rfl ?_
            refine z_al0 eX8_byNames_138 ?_
            refine z_gi eX8_byNames_139 fX8_33 zs54 ?_
            rw [hfr 54 (by decide), k3]
            refine z_cne eX8_byNames_142 rfl (fun c142 => ?_) (fun c142 => ?_)
            · refine z_incN4 eX8_byNames_163 zn0 (by omega) (by omega) ?_
              refine z_goto eX8_byNames_166 rfl ?_
              refine z_fg5 ?_
              refine z_fg6 ?_
              exact ih (r - 1) (by omega) (x + 1) g2 (by omega) hg2 (by rw [f54]; exact ⟨k2, k3⟩) (by rw [f54]; exact (nmS_bR (D := D) (a := a) (wn := wn) (kd := kd) (cheap := cheap) (x := x) (by omega) R).2 (fun z => by have z3 := z.2.2; unfold aimD aimQ at z3; omega))
            · refine z_al0 eX8_byNames_145 ?_
              refine z_il5 eX8_byNames_146 ?_
              refine z_pi eX8_byNames_148 pX8_40 zs54 ?_
              refine z_al0 eX8_byNames_151 ?_
              refine z_il6 eX8_byNames_152 ?_
              refine z_pi eX8_byNames_154 pX8_74 zs54 ?_
              refine z_al0 eX8_byNames_157 ?_
              refine z_il4 eX8_byNames_158 ?_
              refine z_pi eX8_byNames_160 pX8_77 zs54 ?_
              refine z_incN4 eX8_byNames_163 zn0 (by omega) (by omega) ?_
              refine z_goto eX8_byNames_166 rfl ?_
              refine z_fg5 ?_
              refine z_fg6 ?_
              refine ih (r - 1) (by omega) (x + 1) _ (by omega) (((hg2.up (by omega) (by omega) rfl).up (by omega) (by omega) rfl).up (by omega) (by omega) rfl) ?_ ?_
              · rw [zup_ne (by decide), zup_ne (by decide), zup_ne (by decide), zup_ne (by decide), zup_ne (by decide), zup_ne (by decide), f54]
                exact ⟨k2, k3⟩
              · rw [zup_ne (show ¬ (54 = 54 ∧ 8 = 10) by decide), zup_ne (show ¬ (54 = 54 ∧ 8 = 9) by decide), zup_at, zup_ne (show ¬ (54 = 54 ∧ 9 = 10) by decide), zup_at, zup_at]
                exact (nmS_bR (D := D) (a := a) (wn := wn) (kd := kd) (cheap := cheap) (x := x) (by omega) R).1 ⟨by omega, z96, by unfold aimD aimQ; omega⟩
        · have z96 := iteF c96
          refine z_goto eX8_byNames_99 rfl ?_
          refine z_incN4 eX8_byNames_163 zn0 (by omega) (by omega) ?_
          refine z_goto eX8_byNames_166 rfl ?_
          refine z_fg5 ?_
          refine z_fg6 ?_
          exact ih (r - 1) (by omega) (x + 1) g (by omega) hg ⟨k2, k3⟩ ((nmS_bR (D := D) (a := a) (wn := wn) (kd := kd) (cheap := cheap) (x := x) (by omega) R).2 (fun z => z96 z.2.1))
theorem x_byN (h : zHp) (H : rHR h) (a wn kd cheap : Int) (hwn : wn = 0 ∨ wn = 1) (hkd : kd = 1 ∨ kd = 2 ∨ kd = 3) (k2 : h 54 2 = a) (k3 : h 54 3 = wn) (k4 : h 54 4 = kd) (k8 : h 54 8 = -1) : zCi mX8_byNames 4 [zA 54, zI cheap] h (fun v h' => (if 0 ≤ (nmF (h 122) a wn kd cheap (2 ^ nN (h 122))).1 then 1 else 0) = v ∧ zXf h h' ∧ bR (h' 54 8) (h' 54 9) (h' 54 10) (nmF (h 122) a wn kd cheap (2 ^ nN (h 122)))) := by
  refine z_enter [zA 54, zI cheap, zU, zU, zU, zU, zU] (by decide +kernel) (Nat.le_of_ble_eq_true rfl) rfl (fun hra hrg => ?_)
  obtain ⟨⟨hb, hst, e0, e1, e7, ek, es, eo, hp⟩, hru⟩ := id H
  have hN := nN_eq hb
  have hS := nS_eq hb
  have hN8 := nN_le hb
  have hS20 := nS_le hb
  have hb2 := hb.2.2.1
  have h256 := p2le hN8
  have hpp := Nat.two_pow_pos (nN (h 122))
  have kA := kdA hkd
  have hS2 := stL hb hst
  have eS : h 4 1 = (((h 122 2).toNat : Nat) : Int) := e1.trans (stN hb)
  have han := p2_256 hb (andn_lt (show 2 ^ nN (h 122) - 1 < 2 ^ nN (h 122) by omega) (h 122 2).toNat)
  refine z_al0 eX8_byNames_0 ?_
  refine z_ga eX8_byNames_1 fX8_21 zs54 (t := 4) rfl ?_
  refine zc_vi0 eX8_byNames_4 lX8_43 tX5_allNames zs4 (by decide) (Nat.le_of_ble_eq_true rfl) (x_allNames _ H) ?_
  rintro _ _ ⟨rfl, rfl⟩ -
  refine z_is2 eX8_byNames_7 zn0 ?_
  refine z_al0 eX8_byNames_8 ?_
  refine z_gi eX8_byNames_9 fX8_37 zs54 ?_
  refine z_ki eX8_byNames_12 ?_
  refine z_iand eX8_byNames_13 ?_
  rw [k4]
  refine z_ieq eX8_byNames_14 rfl (fun c14 => ?_) (fun c14 => ?_)
  · refine z_ki eX8_byNames_31 ?_
    refine z_al0 eX8_byNames_32 ?_
    refine z_gi eX8_byNames_33 fX8_37 zs54 ?_
    refine z_ki eX8_byNames_36 ?_
    refine z_iand eX8_byNames_37 ?_
    rw [k4]
    refine z_ieq eX8_byNames_38 rfl (fun c38 => ?_) (fun c38 => ?_)
    · refine z_ki eX8_byNames_51 ?_
      refine z_ior eX8_byNames_52 ?_
      refine z_is3 eX8_byNames_53 zn0 ?_
      refine z_ki eX8_byNames_54 ?_
      refine z_is4 eX8_byNames_55 zn0 ?_
      exfalso
      omega
    · refine z_al0 eX8_byNames_41 ?_
      refine z_ga eX8_byNames_42 fX8_21 zs54 (t := 4) rfl ?_
      refine z_gi eX8_byNames_45 fX8_49 zs4 ?_
      rw [eS]
      refine z_goto eX8_byNames_48 rfl ?_
      refine z_ior eX8_byNames_52 ?_
      refine z_is3 eX8_byNames_53 zn0 ?_
      refine z_ki eX8_byNames_54 ?_
      refine z_is4 eX8_byNames_55 zn0 ?_
      refine x_byN_l h H _ rfl a wn kd cheap _ hwn (fun x hx => ?_) _ 0 h (Nat.zero_add _) zXf.rf ⟨k2, k3⟩ (bR_0 k8)
      have e : kd = 2 := by omega
      subst e
      rw [badM2 (by omega) (by omega)]
      rfl
  · refine z_il2 eX8_byNames_17 ?_
    refine z_al0 eX8_byNames_18 ?_
    refine z_ga eX8_byNames_19 fX8_21 zs54 (t := 4) rfl ?_
    refine z_gi eX8_byNames_22 fX8_49 zs4 ?_
    refine z_ki eX8_byNames_25 ?_
    refine z_ixor eX8_byNames_26 ?_
    refine z_iand eX8_byNames_27 ?_
    rw [eS, kb_andn (by omega)]
    refine z_goto eX8_byNames_28 rfl ?_
    refine z_al0 eX8_byNames_32 ?_
    refine z_gi eX8_byNames_33 fX8_37 zs54 ?_
    refine z_ki eX8_byNames_36 ?_
    refine z_iand eX8_byNames_37 ?_
    rw [k4]
    refine z_ieq eX8_byNames_38 rfl (fun c38 => ?_) (fun c38 => ?_)
    · refine z_ki eX8_byNames_51 ?_
      refine z_ior eX8_byNames_52 ?_
      refine z_is3 eX8_byNames_53 zn0 ?_
      refine z_ki eX8_byNames_54 ?_
      refine z_is4 eX8_byNames_55 zn0 ?_
      refine x_byN_l h H _ rfl a wn kd cheap _ hwn (fun x hx => ?_) _ 0 h (Nat.zero_add _) zXf.rf ⟨k2, k3⟩ (bR_0 k8)
      have e : kd = 1 := by omega
      subst e
      rw [show (0 : Int) = ((0 : Nat) : Int) from rfl, kb_or (by omega) (by omega), kb_andn (by omega), badX1 hS2 hx]
      rfl
    · refine z_al0 eX8_byNames_41 ?_
      refine z_ga eX8_byNames_42 fX8_21 zs54 (t := 4) rfl ?_
      refine z_gi eX8_byNames_45 fX8_49 zs4 ?_
      rw [eS]
      refine z_goto eX8_byNames_48 rfl ?_
      refine z_ior eX8_byNames_52 ?_
      refine z_is3 eX8_byNames_53 zn0 ?_
      refine z_ki eX8_byNames_54 ?_
      refine z_is4 eX8_byNames_55 zn0 ?_
      refine x_byN_l h H _ rfl a wn kd cheap _ hwn (fun x hx => ?_) _ 0 h (Nat.zero_add _) zXf.rf ⟨k2, k3⟩ (bR_0 k8)
      have e : kd = 3 := by omega
      subst e
      rw [kb_or (by omega) (by omega), kb_andn (by omega), badX3 hx]
      rfl
theorem x_isOfVoters (h : zHp) (x : Int) : zCi mX11_isOfVoters 0 [zI x] h (fun v h' => (if x = 4 ∨ x = 8 ∨ x = 12 then 1 else 0) = v ∧ h = h') := by
  refine z_enter [zI x] (by decide +kernel) (Nat.le_of_ble_eq_true rfl) rfl (fun hra hrg => ?_)
  refine z_il0 eX11_isOfVoters_0 ?_
  refine z_ki eX11_isOfVoters_1 ?_
  refine z_ceq eX11_isOfVoters_2 rfl (fun c2 => ?_) (fun c2 => ?_)
  · refine z_ki eX11_isOfVoters_17 ?_
    refine z_goto eX11_isOfVoters_18 rfl ?_
    refine ze_z eX11_isOfVoters_22 rfl (by first | exact Or.inl rfl | exact Or.inr rfl) ?_
    refine ⟨?_, rfl⟩
    first | (rw [if_pos (by omega)]; done) | (rw [if_neg (by omega)]; done)
  · refine z_il0 eX11_isOfVoters_5 ?_
    refine z_ki eX11_isOfVoters_6 ?_
    refine z_ceq eX11_isOfVoters_8 rfl (fun c8 => ?_) (fun c8 => ?_)
    · refine z_ki eX11_isOfVoters_17 ?_
      refine z_goto eX11_isOfVoters_18 rfl ?_
      refine ze_z eX11_isOfVoters_22 rfl (by first | exact Or.inl rfl | exact Or.inr rfl) ?_
      refine ⟨?_, rfl⟩
      first | (rw [if_pos (by omega)]; done) | (rw [if_neg (by omega)]; done)
    · refine z_il0 eX11_isOfVoters_11 ?_
      refine z_ki eX11_isOfVoters_12 ?_
      refine z_cne eX11_isOfVoters_14 rfl (fun c14 => ?_) (fun c14 => ?_)
      · refine z_ki eX11_isOfVoters_21 ?_
        refine ze_z eX11_isOfVoters_22 rfl (by first | exact Or.inl rfl | exact Or.inr rfl) ?_
        refine ⟨?_, rfl⟩
        first | (rw [if_pos (by omega)]; done) | (rw [if_neg (by omega)]; done)
      · refine z_ki eX11_isOfVoters_17 ?_
        refine z_goto eX11_isOfVoters_18 rfl ?_
        refine ze_z eX11_isOfVoters_22 rfl (by first | exact Or.inl rfl | exact Or.inr rfl) ?_
        refine ⟨?_, rfl⟩
        first | (rw [if_pos (by omega)]; done) | (rw [if_neg (by omega)]; done)
theorem x_isOfNames (h : zHp) (x : Int) : zCi mX11_isOfNames 0 [zI x] h (fun v h' => (if 1 ≤ x ∧ x ≤ 3 then 1 else 0) = v ∧ h = h') := by
  refine z_enter [zI x] (by decide +kernel) (Nat.le_of_ble_eq_true rfl) rfl (fun hra hrg => ?_)
  refine z_il0 eX11_isOfNames_0 ?_
  refine z_ki eX11_isOfNames_1 ?_
  refine z_clt eX11_isOfNames_2 rfl (fun c2 => ?_) (fun c2 => ?_)
  · refine z_ki eX11_isOfNames_14 ?_
    refine ze_z eX11_isOfNames_15 rfl (by first | exact Or.inl rfl | exact Or.inr rfl) ?_
    refine ⟨?_, rfl⟩
    first | (rw [if_pos (by omega)]; done) | (rw [if_neg (by omega)]; done)
  · refine z_il0 eX11_isOfNames_5 ?_
    refine z_ki eX11_isOfNames_6 ?_
    refine z_cgt eX11_isOfNames_7 rfl (fun c7 => ?_) (fun c7 => ?_)
    · refine z_ki eX11_isOfNames_14 ?_
      refine ze_z eX11_isOfNames_15 rfl (by first | exact Or.inl rfl | exact Or.inr rfl) ?_
      refine ⟨?_, rfl⟩
      first | (rw [if_pos (by omega)]; done) | (rw [if_neg (by omega)]; done)
    · refine z_ki eX11_isOfNames_10 ?_
      refine z_goto eX11_isOfNames_11 rfl ?_
      refine ze_z eX11_isOfNames_15 rfl (by first | exact Or.inl rfl | exact Or.inr rfl) ?_
      refine ⟨?_, rfl⟩
      first | (rw [if_pos (by omega)]; done) | (rw [if_neg (by omega)]; done)
theorem r_isPeople (h : zHp) (x : Int) : zCi mX12_isPeople 0 [zI x] h (fun v h' => (if x = 4 ∨ x = 8 ∨ x = 12 then 1 else 0) = v ∧ h = h') := by
  refine z_enter [zI x] (by decide +kernel) (Nat.le_of_ble_eq_true rfl) rfl (fun hra hrg => ?_)
  refine z_il0 eX12_isPeople_0 ?_
  refine z_ki eX12_isPeople_1 ?_
  refine z_ceq eX12_isPeople_2 rfl (fun c2 => ?_) (fun c2 => ?_)
  · refine z_ki eX12_isPeople_17 ?_
    refine z_goto eX12_isPeople_18 rfl ?_
    refine ze_z eX12_isPeople_22 rfl (by first | exact Or.inl rfl | exact Or.inr rfl) ?_
    refine ⟨?_, rfl⟩
    first | (rw [if_pos (by omega)]; done) | (rw [if_neg (by omega)]; done)
  · refine z_il0 eX12_isPeople_5 ?_
    refine z_ki eX12_isPeople_6 ?_
    refine z_ceq eX12_isPeople_8 rfl (fun c8 => ?_) (fun c8 => ?_)
    · refine z_ki eX12_isPeople_17 ?_
      refine z_goto eX12_isPeople_18 rfl ?_
      refine ze_z eX12_isPeople_22 rfl (by first | exact Or.inl rfl | exact Or.inr rfl) ?_
      refine ⟨?_, rfl⟩
      first | (rw [if_pos (by omega)]; done) | (rw [if_neg (by omega)]; done)
    · refine z_il0 eX12_isPeople_11 ?_
      refine z_ki eX12_isPeople_12 ?_
      refine z_cne eX12_isPeople_14 rfl (fun c14 => ?_) (fun c14 => ?_)
      · refine z_ki eX12_isPeople_21 ?_
        refine ze_z eX12_isPeople_22 rfl (by first | exact Or.inl rfl | exact Or.inr rfl) ?_
        refine ⟨?_, rfl⟩
        first | (rw [if_pos (by omega)]; done) | (rw [if_neg (by omega)]; done)
      · refine z_ki eX12_isPeople_17 ?_
        refine z_goto eX12_isPeople_18 rfl ?_
        refine ze_z eX12_isPeople_22 rfl (by first | exact Or.inl rfl | exact Or.inr rfl) ?_
        refine ⟨?_, rfl⟩
        first | (rw [if_pos (by omega)]; done) | (rw [if_neg (by omega)]; done)
theorem x_keepN (h : zHp) : zCv mX4_keepNames 0 [zA 58, zA 54] h (fun h' => zup (zup (zup h 58 0 1) 58 1 (h 54 9)) 58 2 (h 54 10) = h') := by
  refine z_enter [zA 58, zA 54] (by decide +kernel) (Nat.le_of_ble_eq_true rfl) rfl (fun hra hrg => ?_)
  refine z_al0 eX4_keepNames_0 ?_
  refine z_ki eX4_keepNames_1 ?_
  refine z_pi eX4_keepNames_2 pX4_11 zs58 ?_
  refine z_al0 eX4_keepNames_5 ?_
  refine z_al1 eX4_keepNames_6 ?_
  refine z_gi eX4_keepNames_7 fX4_19 zs54 ?_
  rw [zup_off (by decide)]
  refine z_pi eX4_keepNames_10 pX4_24 zs58 ?_
  refine z_al0 eX4_keepNames_13 ?_
  refine z_al1 eX4_keepNames_14 ?_
  refine z_gi eX4_keepNames_15 fX4_25 zs54 ?_
  rw [zup_off (by decide), zup_off (by decide)]
  refine z_pi eX4_keepNames_18 pX4_28 zs58 ?_
  refine ze_v eX4_keepNames_21 rfl ?_
  rfl
def qNames (D : Nat → Int) (a wn kd cheap : Int) : Int × Int := if 0 ≤ a ∧ a < D 0 then (if 1 ≤ kd ∧ kd ≤ 3 then (if (nmF D a wn kd cheap (2 ^ nN D)).1 < 0 then (-1, 9) else ((nmF D a wn kd cheap (2 ^ nN D)).1, 0)) else (-1, 5)) else (-1, 2)
/-- an answer, its status, and behind status 0 what is kept of it (the cells of component 3) -/
def pX3 (h : zHp) (q : Int × Int) (P : zHp → Prop) (v : Int) (g : zHp) : Prop := q.1 = v ∧ g 0 0 = q.2 ∧ (∀ a : Nat, 117 ≤ a → g a = h a) ∧ (q.2 = 0 → zEx [3] h g ∧ P g) ∧ (¬ q.2 = 0 → zEx [] h g)
def pM3 (h : zHp) (q : Int × Int) (P : zHp → Prop) (v : Int) (g : zHp) : Prop := q.1 = v ∧ g 117 0 = q.2 ∧ (∀ a : Nat, a < 117 → g a = h a) ∧ (q.2 = 0 → zEx [3] h g ∧ P g) ∧ (¬ q.2 = 0 → zEx [] h g)
theorem pX3_no {h g : zHp} {q : Int × Int} {P : zHp → Prop} {v y : Int} (F : zXf h g) (e : q = (v, y)) (hy : ¬ y = 0) : pX3 h q P v (zup g 0 0 y) := by
  have r := pX0_f F e
  subst e
  exact ⟨r.1, r.2.1, r.2.2.1, fun q => absurd q hy, fun _ => r.2.2.2⟩
theorem pM3_no {h g f : zHp} {q : Int × Int} {P : zHp → Prop} {v y : Int} (hg : zup (zup h 117 1 0) 117 0 0 = g) (F : zMf g f) (e : q = (v, y)) (hy : ¬ y = 0) : pM3 h q P v (zup f 117 0 y) := by
  have r := pM0_fr hg F e
  subst e
  exact ⟨r.1, r.2.1, r.2.2.1, fun q => absurd q hy, fun _ => r.2.2.2⟩
theorem x_names (h : zHp) (H : rHR h) (a wn kd cheap : Int) (hwn : wn = 0 ∨ wn = 1) : zCi mX11_names 5 [zA 0, zI a, zI wn, zI kd, zI cheap] h (fun v h' => pX3 h (qNames (h 122) a wn kd cheap) (fun g => g 58 0 = 1 ∧ g 58 1 = (nmF (h 122) a wn kd cheap (2 ^ nN (h 122))).2.1 ∧ g 58 2 = (nmF (h 122) a wn kd cheap (2 ^ nN (h 122))).2.2) v h') := by
  refine z_enter [zA 0, zI a, zI wn, zI kd, zI cheap] (by decide +kernel) (Nat.le_of_ble_eq_true rfl) rfl (fun hra hrg => ?_)
  obtain ⟨⟨hb, hst, e0, e1, e7, ek, es, eo, hp⟩, hru⟩ := id H
  have hN := nN_eq hb
  have hS := nS_eq hb
  have hN8 := nN_le hb
  have hS20 := nS_le hb
  have hb2 := hb.2.2.1
  refine z_al0 eX11_names_0 ?_
  refine z_il1 eX11_names_1 ?_
  refine zc_vi1 eX11_names_2 lX11_224 tX11_isName zs0 (by decide) (Nat.le_of_ble_eq_true rfl) (x_isName _ H _) ?_
  rintro _ _ ⟨rfl, rfl⟩ -
  refine z_ine eX11_names_5 rfl (fun c5 => ?_) (fun c5 => ?_)
  · have z5 := iteT c5
    refine z_il3 eX11_names_14 ?_
    refine zc_si1 eX11_names_15 lX11_284 tX11_isOfNames (by decide) (Nat.le_of_ble_eq_true rfl) (x_isOfNames _ _) ?_
    rintro _ _ ⟨rfl, rfl⟩ -
    refine z_ine eX11_names_18 rfl (fun c18 => ?_) (fun c18 => ?_)
    · have z18 := iteT c18
      refine z_al0 eX11_names_27 ?_
      refine z_ga eX11_names_28 fX11_74 zs0 (t := 54) rfl ?_
      refine z_il1 eX11_names_31 ?_
      refine z_il2 eX11_names_32 ?_
      refine z_il3 eX11_names_33 ?_
      refine zc_vv3 eX11_names_34 lX11_287 tX8_aim zs54 (by decide) (Nat.le_of_ble_eq_true rfl) (x_aim _ a wn kd hwn) ?_
      rintro g rfl
      have hg : zXf h (zup (zup (zup (zup h 54 2 a) 54 3 wn) 54 4 kd) 54 8 (-1)) := (((zXf.rf.up (by omega) (by omega) rfl).up (by omega) (by omega) rfl).up (by omega) (by omega) rfl).up (by omega) (by omega) rfl
      have Hg := H.xf hg
      have e122 : zup (zup (zup (zup h 54 2 a) 54 3 wn) 54 4 kd) 54 8 (-1) 122 = h 122 := hg.2.1 122 (by omega)
      refine z_al0 eX11_names_37 ?_
      refine z_ga eX11_names_38 fX11_74 zs0 (t := 54) rfl ?_
      refine z_il4 eX11_names_41 ?_
      refine zc_vi1 eX11_names_43 lX11_291 tX8_byNames zs54 (by decide) (Nat.le_of_ble_eq_true rfl) (x_byN _ Hg a wn kd cheap hwn (by omega) (by rw [zup_ne (by decide), zup_ne (by decide), zup_ne (by decide), zup_at]) (by rw [zup_ne (by decide), zup_ne (by decide), zup_at]) (by rw [zup_ne (by decide), zup_at]) (zup_at _ _ _ _)) ?_
      rw [e122]
      rintro _ g2 ⟨rfl, hg2, R⟩ -
      have hx2 := hg.tr hg2
      refine z_ine eX11_names_46 rfl (fun c46 => ?_) (fun c46 => ?_)
      · have z46 := iteT c46
        refine z_al0 eX11_names_56 ?_
        refine z_ga eX11_names_57 fX11_81 zs0 (t := 58) rfl ?_
        refine z_al0 eX11_names_60 ?_
        refine z_ga eX11_names_61 fX11_74 zs0 (t := 54) rfl ?_
        refine zc_vv1 eX11_names_64 lX11_295 tX4_keepNames zs58 (by decide) (Nat.le_of_ble_eq_true rfl) (x_keepN _) ?_
        rintro _ rfl
        refine z_al0 eX11_names_67 ?_
        refine z_al0 eX11_names_68 ?_
        refine z_ga eX11_names_69 fX11_74 zs0 (t := 54) rfl ?_
        refine z_gi eX11_names_72 fX11_299 zs54 ?_
        rw [show zup (zup (zup g2 58 0 1) 58 1 (g2 54 9)) 58 2 (g2 54 10) 54 8 = (nmF (h 122) a wn kd cheap (2 ^ nN (h 122))).1 by rw [zup_off (by decide), zup_off (by decide), zup_off (by decide)]; exact R.1]
        refine zc_vi1 eX11_names_75 lX11_202 tX11_answer zs0 (by decide) (Nat.le_of_ble_eq_true rfl) (x_answer _ _) ?_
        rintro _ _ ⟨rfl, rfl⟩ -
        refine ze_i eX11_names_78 rfl ?_
        have R3 := R.2.2 z46
        rw [show qNames (h 122) a wn kd cheap = ((nmF (h 122) a wn kd cheap (2 ^ nN (h 122))).1, 0) by unfold qNames; rw [if_pos z5, if_pos z18, if_neg (by omega)]]
        refine ⟨rfl, zup_at _ _ _ _, fun b hb => by rw [zup_off (by omega), zup_off (by omega), zup_off (by omega), zup_off (by omega)]; exact hx2.2.1 b hb, fun _ => ⟨?_, ?_, ?_, ?_⟩, fun q => absurd rfl q⟩
        · exact zEx.up (zEx.up (zEx.up (zEx.up (hx2.1.wk (by simp)) (Or.inr (show 3 ∈ [3] by decide))) (Or.inr (show 3 ∈ [3] by decide))) (Or.inr (show 3 ∈ [3] by decide))) (Or.inl rfl)
        · rw [zup_off (by decide), zup_ne (by decide), zup_ne (by decide), zup_at]
        · rw [zup_off (by decide), zup_ne (by decide), zup_at]; exact R3.1
        · rw [zup_off (by decide), zup_at]; exact R3.2
      · have z46 := iteF c46
        refine z_al0 eX11_names_49 ?_
        refine z_ki eX11_names_50 ?_
        refine zc_vi1 eX11_names_52 lX11_153 tX11_fail zs0 (by decide) (Nat.le_of_ble_eq_true rfl) (x_fail _ _) ?_
        rintro _ _ ⟨rfl, rfl⟩ -
        refine ze_i eX11_names_55 rfl ?_
        exact pX3_no hx2 (by unfold qNames; (repeat' split) <;> first | (exfalso; omega) | rfl) (by decide)
    · have z18 := iteF c18
      refine z_al0 eX11_names_21 ?_
      refine z_ki eX11_names_22 ?_
      refine zc_vi1 eX11_names_23 lX11_153 tX11_fail zs0 (by decide) (Nat.le_of_ble_eq_true rfl) (x_fail _ _) ?_
      rintro _ _ ⟨rfl, rfl⟩ -
      refine ze_i eX11_names_26 rfl ?_
      exact pX3_no zXf.rf (by unfold qNames; (repeat' split) <;> first | (exfalso; omega) | rfl) (by decide)
  · have z5 := iteF c5
    refine z_al0 eX11_names_8 ?_
    refine z_ki eX11_names_9 ?_
    refine zc_vi1 eX11_names_10 lX11_153 tX11_fail zs0 (by decide) (Nat.le_of_ble_eq_true rfl) (x_fail _ _) ?_
    rintro _ _ ⟨rfl, rfl⟩ -
    refine ze_i eX11_names_13 rfl ?_
    exact pX3_no zXf.rf (by unfold qNames; (repeat' split) <;> first | (exfalso; omega) | rfl) (by decide)
theorem r_aim (h : zHp) (a wn kd mo ch : Int) (hw : wn = 0 ∨ wn = 1) (hc : ch = 0 ∨ ch = 1) : zCv mX12_aim 0 [zA 117, zI a, zI wn, zI kd, zI mo, zI ch] h (fun h' => zup (zup (zup (zup (zup h 117 58 a) 117 56 wn) 117 59 kd) 117 60 mo) 117 57 ch = h') := by
  refine z_enter [zA 117, zI a, zI wn, zI kd, zI mo, zI ch] (by decide +kernel) (Nat.le_of_ble_eq_true rfl) rfl (fun hra hrg => ?_)
  refine z_al0 eX12_aim_0 ?_
  refine z_il1 eX12_aim_1 ?_
  refine z_pi eX12_aim_2 pX12_363 zs117 ?_
  refine z_al0 eX12_aim_5 ?_
  refine z_il2 eX12_aim_6 ?_
  refine z_pz eX12_aim_7 pX12_366 zs117 (by exact hw) ?_
  refine z_al0 eX12_aim_10 ?_
  refine z_il3 eX12_aim_11 ?_
  refine z_pi eX12_aim_12 pX12_369 zs117 ?_
  refine z_al0 eX12_aim_15 ?_
  refine z_il4 eX12_aim_16 ?_
  refine z_pi eX12_aim_18 pX12_381 zs117 ?_
  refine z_al0 eX12_aim_21 ?_
  refine z_il5 eX12_aim_22 ?_
  refine z_pz eX12_aim_24 pX12_357 zs117 (by exact hc) ?_
  refine ze_v eX12_aim_27 rfl ?_
  rfl
theorem r_isBetter (h : zHp) (ch : Int) (hc : h 117 57 = ch) (many cost : Int) : zCi mX12_isBetter 0 [zA 117, zI many, zI cost] h (fun v h' => (if bet ch (h 117 46) (h 117 47) many cost then 1 else 0) = v ∧ h = h') := by
  refine z_enter [zA 117, zI many, zI cost, zU, zU, zU, zU] (by decide +kernel) (Nat.le_of_ble_eq_true rfl) rfl (fun hra hrg => ?_)
  subst hc
  refine z_al0 eX12_isBetter_0 ?_
  refine z_gi eX12_isBetter_1 fX12_354 zs117 ?_
  refine z_ige eX12_isBetter_4 rfl (fun c4 => ?_) (fun c4 => ?_)
  · refine z_al0 eX12_isBetter_9 ?_
    refine z_gi eX12_isBetter_10 fX12_357 zs117 ?_
    refine z_ieq eX12_isBetter_13 rfl (fun c13 => ?_) (fun c13 => ?_)
    · refine z_il1 eX12_isBetter_20 ?_
      refine z_is3 eX12_isBetter_21 zn0 ?_
      refine z_al0 eX12_isBetter_22 ?_
      refine z_gi eX12_isBetter_23 fX12_357 zs117 ?_
      refine z_ieq eX12_isBetter_26 rfl (fun c26 => ?_) (fun c26 => ?_)
      · refine z_al0 eX12_isBetter_36 ?_
        refine z_gi eX12_isBetter_37 fX12_354 zs117 ?_
        refine z_is4 eX12_isBetter_40 zn0 ?_
        refine z_al0 eX12_isBetter_42 ?_
        refine z_gi eX12_isBetter_43 fX12_357 zs117 ?_
        refine z_ieq eX12_isBetter_46 rfl (fun c46 => ?_) (fun c46 => ?_)
        · refine z_il2 eX12_isBetter_53 ?_
          refine z_is5 eX12_isBetter_54 zn0 ?_
          refine z_al0 eX12_isBetter_56 ?_
          refine z_gi eX12_isBetter_57 fX12_357 zs117 ?_
          refine z_ieq eX12_isBetter_60 rfl (fun c60 => ?_) (fun c60 => ?_)
          · refine z_al0 eX12_isBetter_70 ?_
            refine z_gi eX12_isBetter_71 fX12_360 zs117 ?_
            refine z_is6 eX12_isBetter_74 zn0 ?_
            refine z_il3 eX12_isBetter_76 ?_
            refine z_il4 eX12_isBetter_77 ?_
            refine z_clt eX12_isBetter_79 rfl (fun c79 => ?_) (fun c79 => ?_)
            · refine z_ki eX12_isBetter_95 ?_
              refine z_goto eX12_isBetter_96 rfl ?_
              refine ze_z eX12_isBetter_100 rfl (by first | exact Or.inl rfl | exact Or.inr rfl) ?_
              refine ⟨?_, rfl⟩
              first | (rw [if_pos (by unfold bet; omega)]; done) | (rw [if_neg (by unfold bet; omega)]; done)
            · refine z_il3 eX12_isBetter_82 ?_
              refine z_il4 eX12_isBetter_83 ?_
              refine z_cne eX12_isBetter_85 rfl (fun c85 => ?_) (fun c85 => ?_)
              · refine z_ki eX12_isBetter_99 ?_
                refine ze_z eX12_isBetter_100 rfl (by first | exact Or.inl rfl | exact Or.inr rfl) ?_
                refine ⟨?_, rfl⟩
                first | (rw [if_pos (by unfold bet; omega)]; done) | (rw [if_neg (by unfold bet; omega)]; done)
              · refine z_il5 eX12_isBetter_88 ?_
                refine z_il6 eX12_isBetter_90 ?_
                refine z_cge eX12_isBetter_92 rfl (fun c92 => ?_) (fun c92 => ?_)
                · refine z_ki eX12_isBetter_99 ?_
                  refine ze_z eX12_isBetter_100 rfl (by first | exact Or.inl rfl | exact Or.inr rfl) ?_
                  refine ⟨?_, rfl⟩
                  first | (rw [if_pos (by unfold bet; omega)]; done) | (rw [if_neg (by unfold bet; omega)]; done)
                · refine z_ki eX12_isBetter_95 ?_
                  refine z_goto eX12_isBetter_96 rfl ?_
                  refine ze_z eX12_isBetter_100 rfl (by first | exact Or.inl rfl | exact Or.inr rfl) ?_
                  refine ⟨?_, rfl⟩
                  first | (rw [if_pos (by unfold bet; omega)]; done) | (rw [if_neg (by unfold bet; omega)]; done)
          · exact absurd c13 c60
        · exact absurd c13 c46
      · exact absurd c13 c26
    · refine z_il2 eX12_isBetter_16 ?_
      refine z_goto eX12_isBetter_17 rfl ?_
      refine z_is3 eX12_isBetter_21 zn0 ?_
      refine z_al0 eX12_isBetter_22 ?_
      refine z_gi eX12_isBetter_23 fX12_357 zs117 ?_
      refine z_ieq eX12_isBetter_26 rfl (fun c26 => ?_) (fun c26 => ?_)
      · exact absurd c26 c13
      · refine z_al0 eX12_isBetter_29 ?_
        refine z_gi eX12_isBetter_30 fX12_360 zs117 ?_
        refine z_goto eX12_isBetter_33 rfl ?_
        refine z_is4 eX12_isBetter_40 zn0 ?_
        refine z_al0 eX12_isBetter_42 ?_
        refine z_gi eX12_isBetter_43 fX12_357 zs117 ?_
        refine z_ieq eX12_isBetter_46 rfl (fun c46 => ?_) (fun c46 => ?_)
        · exact absurd c46 c13
        · refine z_il1 eX12_isBetter_49 ?_
          refine z_goto eX12_isBetter_50 rfl ?_
          refine z_is5 eX12_isBetter_54 zn0 ?_
          refine z_al0 eX12_isBetter_56 ?_
          refine z_gi eX12_isBetter_57 fX12_357 zs117 ?_
          refine z_ieq eX12_isBetter_60 rfl (fun c60 => ?_) (fun c60 => ?_)
          · exact absurd c60 c13
          · refine z_al0 eX12_isBetter_63 ?_
            refine z_gi eX12_isBetter_64 fX12_354 zs117 ?_
            refine z_goto eX12_isBetter_67 rfl ?_
            refine z_is6 eX12_isBetter_74 zn0 ?_
            refine z_il3 eX12_isBetter_76 ?_
            refine z_il4 eX12_isBetter_77 ?_
            refine z_clt eX12_isBetter_79 rfl (fun c79 => ?_) (fun c79 => ?_)
            · refine z_ki eX12_isBetter_95 ?_
              refine z_goto eX12_isBetter_96 rfl ?_
              refine ze_z eX12_isBetter_100 rfl (by first | exact Or.inl rfl | exact Or.inr rfl) ?_
              refine ⟨?_, rfl⟩
              first | (rw [if_pos (by unfold bet; omega)]; done) | (rw [if_neg (by unfold bet; omega)]; done)
            · refine z_il3 eX12_isBetter_82 ?_
              refine z_il4 eX12_isBetter_83 ?_
              refine z_cne eX12_isBetter_85 rfl (fun c85 => ?_) (fun c85 => ?_)
              · refine z_ki eX12_isBetter_99 ?_
                refine ze_z eX12_isBetter_100 rfl (by first | exact Or.inl rfl | exact Or.inr rfl) ?_
                refine ⟨?_, rfl⟩
                first | (rw [if_pos (by unfold bet; omega)]; done) | (rw [if_neg (by unfold bet; omega)]; done)
              · refine z_il5 eX12_isBetter_88 ?_
                refine z_il6 eX12_isBetter_90 ?_
                refine z_cge eX12_isBetter_92 rfl (fun c92 => ?_) (fun c92 => ?_)
                · refine z_ki eX12_isBetter_99 ?_
                  refine ze_z eX12_isBetter_100 rfl (by first | exact Or.inl rfl | exact Or.inr rfl) ?_
                  refine ⟨?_, rfl⟩
                  first | (rw [if_pos (by unfold bet; omega)]; done) | (rw [if_neg (by unfold bet; omega)]; done)
                · refine z_ki eX12_isBetter_95 ?_
                  refine z_goto eX12_isBetter_96 rfl ?_
                  refine ze_z eX12_isBetter_100 rfl (by first | exact Or.inl rfl | exact Or.inr rfl) ?_
                  refine ⟨?_, rfl⟩
                  first | (rw [if_pos (by unfold bet; omega)]; done) | (rw [if_neg (by unfold bet; omega)]; done)
  · refine z_ki eX12_isBetter_7 ?_
    refine ze_z eX12_isBetter_8 rfl (by first | exact Or.inl rfl | exact Or.inr rfl) ?_
    refine ⟨?_, rfl⟩
    first | (rw [if_pos (by unfold bet; omega)]; done) | (rw [if_neg (by unfold bet; omega)]; done)
theorem r_isAim (h : zHp) (D w : Nat → Int) (Hm : mW h D w) (hb : dB D) (hvb : vB D w) (set : Nat) (hset : set < 2 ^ nN D) : zCi mX12_isAim 7 [zA 117, zI set] h (fun v h' => (if aimQ (winW D w set) (h 117 58) (h 117 56) then 1 else 0) = v ∧ zFr 125 h h') := by
  refine z_enter [zA 117, zI set] (by decide +kernel) (Nat.le_of_ble_eq_true rfl) rfl (fun hra hrg => ?_)
  refine z_al0 eX12_isAim_0 ?_
  refine z_il1 eX12_isAim_1 ?_
  refine zc_vi1 eX12_isAim_2 lX12_323 tX12_winner zs117 (by decide) (Nat.le_of_ble_eq_true rfl) (r_winM Hm hb hvb set hset) ?_
  rintro _ g ⟨rfl, hfr⟩ -
  have f117 : g 117 = h 117 := hfr 117 (by decide)
  have h01 : h 117 56 = 0 ∨ h 117 56 = 1 := by
    have q := hrg 117 56 12 74 (by decide) rfl (by omega)
    have q : 0 ≤ h 117 56 ∧ h 117 56 ≤ 1 := q
    omega
  refine z_al0 eX12_isAim_5 ?_
  refine z_gi eX12_isAim_6 fX12_363 zs117 ?_
  rw [f117]
  refine z_cne eX12_isAim_9 rfl (fun c9 => ?_) (fun c9 => ?_)
  · refine z_ki eX12_isAim_16 ?_
    refine z_al0 eX12_isAim_17 ?_
    refine z_gi eX12_isAim_18 fX12_366 zs117 ?_
    rw [f117]
    refine z_cne eX12_isAim_21 rfl (fun c21 => ?_) (fun c21 => ?_)
    · refine z_ki eX12_isAim_28 ?_
      refine ze_z eX12_isAim_29 rfl (by first | exact Or.inl rfl | exact Or.inr rfl) ?_
      refine ⟨?_, hfr⟩
      first | (rw [if_pos (by unfold aimQ; omega)]; done) | (rw [if_neg (by unfold aimQ; omega)]; done)
    · refine z_ki eX12_isAim_24 ?_
      refine z_goto eX12_isAim_25 rfl ?_
      refine ze_z eX12_isAim_29 rfl (by first | exact Or.inl rfl | exact Or.inr rfl) ?_
      refine ⟨?_, hfr⟩
      first | (rw [if_pos (by unfold aimQ; omega)]; done) | (rw [if_neg (by unfold aimQ; omega)]; done)
  · refine z_ki eX12_isAim_12 ?_
    refine z_goto eX12_isAim_13 rfl ?_
    refine z_al0 eX12_isAim_17 ?_
    refine z_gi eX12_isAim_18 fX12_366 zs117 ?_
    rw [f117]
    refine z_cne eX12_isAim_21 rfl (fun c21 => ?_) (fun c21 => ?_)
    · refine z_ki eX12_isAim_28 ?_
      refine ze_z eX12_isAim_29 rfl (by first | exact Or.inl rfl | exact Or.inr rfl) ?_
      refine ⟨?_, hfr⟩
      first | (rw [if_pos (by unfold aimQ; omega)]; done) | (rw [if_neg (by unfold aimQ; omega)]; done)
    · refine z_ki eX12_isAim_24 ?_
      refine z_goto eX12_isAim_25 rfl ?_
      refine ze_z eX12_isAim_29 rfl (by first | exact Or.inl rfl | exact Or.inr rfl) ?_
      refine ⟨?_, hfr⟩
      first | (rw [if_pos (by unfold aimQ; omega)]; done) | (rw [if_neg (by unfold aimQ; omega)]; done)
theorem r_findN_c (D : Nat → Int) (hb : dB D) (g : zHp) (hgD : g 122 = D) (al my : Int) (x : Nat) (hx : x < 2147483648) (Q : zHp → Prop) (kE : zRW mX12_findNames 8 (0, 0) 126 [zA 117, zI al, zI my, zI x, zI (nCost D x), zI (nN D)] [] 143 g (zqv Q)) : ∀ (r k : Nat), k + r = nN D → zRW mX12_findNames 8 (0, 0) 88 [zA 117, zI al, zI my, zI x, zI (sumN (costS D x) k), zI k] [] 143 g (zqv Q) := by
  have hN := nN_eq hb
  have hN8 := nN_le hb
  intro r
  induction r using Nat.strongRecOn with
  | ind r ih =>
    intro k hk
    have hsb := costS_b hb x (show k ≤ nN D by omega)
    have d0 : g 122 0 = (nN D : Int) := by rw [hgD]; exact hN
    refine z_il5 eX12_findNames_88 ?_
    refine z_al0 eX12_findNames_90 ?_
    refine z_ga eX12_findNames_91 fX12_35 zs117 (t := 122) rfl ?_
    refine z_ki eX12_findNames_94 ?_
    refine zr_iN eX12_findNames_95 zs122 (j := 0) (by omega) (by omega) ?_
    refine z_cge eX12_findNames_96 rfl (fun c96 => ?_) (fun c96 => ?_)
    · have e : k = nN D := by omega
      subst e
      exact kE
    · have hc := hb.2.2.2.2.2.1 k (by omega)
      refine z_il4 eX12_findNames_99 ?_
      refine z_il3 eX12_findNames_101 ?_
      refine z_il5 eX12_findNames_102 ?_
      refine z_ishr eX12_findNames_104 ?_
      refine z_ki eX12_findNames_105 ?_
      refine z_iand eX12_findNames_106 ?_
      rw [kb_bit hx (by omega)]
      refine z_al0 eX12_findNames_107 ?_
      refine z_ga eX12_findNames_108 fX12_35 zs117 (t := 122) rfl ?_
      refine z_ki eX12_findNames_111 ?_
      refine z_il5 eX12_findNames_112 ?_
      refine z_iaddN eX12_findNames_114 (by omega) (by omega) ?_
      refine zr_iN eX12_findNames_115 zs122 (j := 3 + k) (by omega) (by omega) ?_
      rw [hgD]
      have hbc : (if x.testBit k = true then (1 : Int) else 0) * D (3 + k) = costS D x k := rfl
      have hbd : 0 ≤ costS D x k ∧ costS D x k ≤ 99 := by
        unfold costS
        rcases bv_01 x k with e | e <;> rw [e] <;> omega
      refine z_imulN eX12_findNames_116 (by rw [hbc]; omega) (by rw [hbc]; omega) ?_
      refine z_iaddN eX12_findNames_117 (by rw [hbc]; omega) (by rw [hbc]; omega) ?_
      refine z_is4 eX12_findNames_118 zn0 ?_
      refine z_incN5 eX12_findNames_120 zn0 (by omega) (by omega) ?_
      refine z_goto eX12_findNames_123 rfl ?_
      exact ih (r - 1) (by omega) (k + 1) (by omega)
theorem r_findN_l (h : zHp) (D : Nat → Int) (hb : dB D) (hst : D 2 < ((2 ^ nN D : Nat) : Int)) (a wn kd cheap my : Int) (hmy : ∀ x : Nat, x < 2 ^ nN D → zand (x : Int) (zxor my (-1)) = (badS (D 2).toNat kd x : Int)) : ∀ (r x : Nat) (g : zHp), x + r = 2 ^ nN D → zMf h g → mW g D (inOf D) → (g 117 58 = a ∧ g 117 56 = wn ∧ g 117 57 = cheap) → bR (g 117 46) (g 117 47) (g 117 48) (nmF D a wn kd cheap x) → zRW mX12_findNames 8 (0, 0) 66 [zA 117, zI ((2 ^ nN D - 1 : Nat) : Int), zI my, zI x, zU, zU] [] 143 g (zqv (fun h' => zMf h h' ∧ h' 122 = D ∧ bR (h' 117 46) (h' 117 47) (h' 117 48) (nmF D a wn kd cheap (2 ^ nN D)))) := by
  have hN := nN_eq hb
  have hS := nS_eq hb
  have hN8 := nN_le hb
  have hS20 := nS_le hb
  have hb2 := hb.2.2.1
  have h256 := p2le hN8
  have hpp := Nat.two_pow_pos (nN D)
  intro r
  induction r using Nat.strongRecOn with
  | ind r ih =>
    intro x g hs hmf hmw hk R
    obtain ⟨k1, k2, k3⟩ := hk
    refine z_il3 eX12_findNames_66 ?_
    refine z_il1 eX12_findNames_67 ?_
    refine z_cgt eX12_findNames_68 rfl (fun c68 => ?_) (fun c68 => ?_)
    · refine ze_v eX12_findNames_182 rfl ?_
      have e : x = 2 ^ nN D := by omega
      subst e
      exact ⟨hmf, hmw.1, R⟩
    · skip
      refine z_il3 eX12_findNames_71 ?_
      refine z_il2 eX12_findNames_72 ?_
      refine z_ki eX12_findNames_73 ?_
      refine z_ixor eX12_findNames_74 ?_
      refine z_iand eX12_findNames_75 ?_
      rw [hmy x (by omega)]
      refine z_ieq eX12_findNames_76 rfl (fun c76 => ?_) (fun c76 => ?_)
      · refine z_ki eX12_findNames_82 ?_
        refine z_is4 eX12_findNames_83 zn0 ?_
        refine z_ki eX12_findNames_85 ?_
        refine z_is5 eX12_findNames_86 zn0 ?_
        refine r_findN_c D hb g hmw.1 _ my x (by omega) _ ?_ (nN D) 0 (Nat.zero_add _)
        refine z_al0 eX12_findNames_126 ?_
        refine z_il3 eX12_findNames_127 ?_
        refine zc_si1 eX12_findNames_128 lX12_297 tJ6_bitCount_0f7a4 (by decide) (Nat.le_of_ble_eq_true rfl) (j_bit _ x (by omega)) ?_
        rintro _ _ ⟨rfl, rfl⟩ -
        refine z_il4 eX12_findNames_131 ?_
        refine zc_vi2 eX12_findNames_133 lX12_372 tX12_isBetter zs117 (by decide) (Nat.le_of_ble_eq_true rfl) (r_isBetter g cheap k3 _ _) ?_
        rintro _ _ ⟨rfl, rfl⟩ -
        refine z_ieq eX12_findNames_136 rfl (fun c136 => ?_) (fun c136 => ?_)
        · have z136 := iteF c136
          refine z_incN3 eX12_findNames_176 zn0 (by omega) (by omega) ?_
          refine z_goto eX12_findNames_179 rfl ?_
          refine z_fg4 ?_
          refine z_fg5 ?_
          exact ih (r - 1) (by omega) (x + 1) g (by omega) hmf hmw ⟨k1, k2, k3⟩ ((nmS_bR (D := D) (a := a) (wn := wn) (kd := kd) (cheap := cheap) (x := x) (by omega) R).2 (fun z => z136 z.2.1))
        · have z136 := iteT c136
          replace z136 : betD _ _ _ _ _ := z136
          clear c136
          refine z_al0 eX12_findNames_139 ?_
          refine z_al0 eX12_findNames_140 ?_
          refine z_ga eX12_findNames_141 fX12_35 zs117 (t := 122) rfl ?_
          refine z_ki eX12_findNames_144 ?_
          refine zr_iN eX12_findNames_145 zs122 (j := 2) (by omega) (by omega) ?_
          refine z_il3 eX12_findNames_146 ?_
          rw [show g 122 2 = ((D 2).toNat : Int) by rw [hmw.1]; exact stN hb]
          refine z_ixor eX12_findNames_147 ?_
          rw [kb_xor (by omega) (by omega)]
          refine zc_vi1 eX12_findNames_148 lX12_375 tX12_isAim zs117 (by decide) (Nat.le_of_ble_eq_true rfl) (r_isAim g D (inOf D) hmw hb (inOf_b hb) _ (Nat.xor_lt_two_pow (stL hb hst) (by omega))) ?_
          rintro _ g2 ⟨rfl, hfr⟩ -
          have f117 : g2 117 = g 117 := hfr 117 (by decide)
          have hm2 : zMf h g2 := hmf.fr hfr (by decide) (fun _ => rfl)
          rw [k1, k2, ← winNow_W]
          refine z_ine eX12_findNames_151 rfl (fun c151 => ?_) (fun c151 => ?_)
          · have z151 := iteT c151
            replace z151 : aimD _ _ _ := z151
            clear c151
            refine z_al0 eX12_findNames_157 ?_
            refine z_il3 eX12_findNames_158 ?_
            refine zc_si1 eX12_findNames_159 lX12_297 tJ6_bitCount_0f7a4 (by decide) (Nat.le_of_ble_eq_true rfl) (j_bit _ x (by omega)) ?_
            rintro _ _ ⟨rfl, rfl⟩ -
            refine z_pi eX12_findNames_162 pX12_354 zs117 ?_
            refine z_al0 eX12_findNames_165 ?_
            refine z_il4 eX12_findNames_166 ?_
            refine z_pi eX12_findNames_168 pX12_360 zs117 ?_
            refine z_al0 eX12_findNames_171 ?_
            refine z_il3 eX12_findNames_172 ?_
            refine z_pi eX12_findNames_173 pX12_378 zs117 ?_
            refine z_incN3 eX12_findNames_176 zn0 (by omega) (by omega) ?_
            refine z_goto eX12_findNames_179 rfl ?_
            refine z_fg4 ?_
            refine z_fg5 ?_
            refine ih (r - 1) (by omega) (x + 1) _ (by omega) (((hm2.up (by omega) (by omega) rfl).up (by omega) (by omega) rfl).up (by omega) (by omega) rfl) ?_ ?_ ?_
            · obtain ⟨m1, m2, m3⟩ := hmw.fr hfr
              exact ⟨by rw [zup_off (by decide), zup_off (by decide), zup_off (by decide)]; exact m1, fun s hs => by rw [zup_off (by decide), zup_off (by decide), zup_off (by decide)]; exact m2 s hs, by rw [zup_ne (by decide), zup_ne (by decide), zup_ne (by decide)]; exact m3⟩
            · rw [zup_ne (by decide), zup_ne (by decide), zup_ne (by decide), zup_ne (by decide), zup_ne (by decide), zup_ne (by decide), zup_ne (by decide), zup_ne (by decide), zup_ne (by decide), f117]
              exact ⟨k1, k2, k3⟩
            · rw [zup_ne (show ¬ (117 = 117 ∧ 46 = 48) by decide), zup_ne (show ¬ (117 = 117 ∧ 46 = 47) by decide), zup_at, zup_ne (show ¬ (117 = 117 ∧ 47 = 48) by decide), zup_at, zup_at]
              exact (nmS_bR (D := D) (a := a) (wn := wn) (kd := kd) (cheap := cheap) (x := x) (by omega) R).1 ⟨by omega, z136, z151⟩
          · have z151 := iteF c151
            refine z_goto eX12_findNames_154 rfl ?_
            refine z_incN3 eX12_findNames_176 zn0 (by omega) (by omega) ?_
            refine z_goto eX12_findNames_179 rfl ?_
            refine z_fg4 ?_
            refine z_fg5 ?_
            exact ih (r - 1) (by omega) (x + 1) g2 (by omega) hm2 (hmw.fr hfr) (by rw [f117]; exact ⟨k1, k2, k3⟩) (by rw [f117]; exact (nmS_bR (D := D) (a := a) (wn := wn) (kd := kd) (cheap := cheap) (x := x) (by omega) R).2 (fun z => z151 z.2.2))
      · refine z_goto eX12_findNames_79 rfl ?_
        refine z_incN3 eX12_findNames_176 zn0 (by omega) (by omega) ?_
        refine z_goto eX12_findNames_179 rfl ?_
        exact ih (r - 1) (by omega) (x + 1) g (by omega) hmf hmw ⟨k1, k2, k3⟩ ((nmS_bR (D := D) (a := a) (wn := wn) (kd := kd) (cheap := cheap) (x := x) (by omega) R).2 (fun z => c76 (by rw [z.1]; rfl)))
theorem r_findN (h : zHp) (D : Nat → Int) (hD : h 122 = D) (hb : dB D) (hst : D 2 < ((2 ^ nN D : Nat) : Int)) (a wn kd cheap : Int) (hkd : kd = 1 ∨ kd = 2 ∨ kd = 3) (k1 : h 117 58 = a) (k2 : h 117 56 = wn) (k3 : h 117 57 = cheap) (k4 : h 117 59 = kd) : zCv mX12_findNames 8 [zA 117] h (fun h' => zMf h h' ∧ h' 122 = D ∧ bR (h' 117 46) (h' 117 47) (h' 117 48) (nmF D a wn kd cheap (2 ^ nN D))) := by
  refine z_enter [zA 117, zU, zU, zU, zU, zU] (by decide +kernel) (Nat.le_of_ble_eq_true rfl) rfl (fun hra hrg => ?_)
  have hN := nN_eq hb
  have hS := nS_eq hb
  have hN8 := nN_le hb
  have hS20 := nS_le hb
  have hb2 := hb.2.2.1
  have h256 := p2le hN8
  have hpp := Nat.two_pow_pos (nN D)
  have kA := kdA hkd
  have D1 : zup h 117 46 (-1) 122 = D := (zup_off (by decide)).trans hD
  have d2 : ∀ j : Nat, cA (zup h 117 46 (-1)) D (nS D) (allV D) 122 j = D j := fun j => by rw [cA_off (by decide) (by decide), D1]
  have dS : cA (zup h 117 46 (-1)) D (nS D) (allV D) 122 2 = (((D 2).toNat : Nat) : Int) := (d2 2).trans (stN hb)
  have hmw := mW_cA (h := zup h 117 46 (-1)) D1
  have hmf : zMf h (cA (zup h 117 46 (-1)) D (nS D) (allV D)) := (zMf.rf.up (by omega) (by omega) rfl).cA _ _ _
  have f117 : ∀ i : Nat, ¬ i = 46 → ¬ i = 25 → cA (zup h 117 46 (-1)) D (nS D) (allV D) 117 i = h 117 i := fun i i1 i2 => by rw [cA_f i2, zup_ne (by omega)]
  have f46 : cA (zup h 117 46 (-1)) D (nS D) (allV D) 117 46 = -1 := by rw [cA_f (by decide), zup_at]
  refine z_al0 eX12_findNames_0 ?_
  refine z_ki eX12_findNames_1 ?_
  refine z_pi eX12_findNames_2 pX12_354 zs117 ?_
  refine z_al0 eX12_findNames_5 ?_
  refine zc_vv0 eX12_findNames_6 lX12_320 tX12_countAll zs117 (by decide) (Nat.le_of_ble_eq_true rfl) (r_countAll _ _ D1 hb) ?_
  rintro _ rfl
  generalize cA (zup h 117 46 (-1)) D (nS D) (allV D) = g at *
  refine z_ki eX12_findNames_9 ?_
  refine z_al0 eX12_findNames_10 ?_
  refine z_ga eX12_findNames_11 fX12_35 zs117 (t := 122) rfl ?_
  refine z_ki eX12_findNames_14 ?_
  refine zr_iN eX12_findNames_15 zs122 (j := 0) (by omega) (by omega) ?_
  rw [d2, hN]
  refine z_ishl eX12_findNames_16 ?_
  rw [kb_shl1 (by omega)]
  refine z_ki eX12_findNames_17 ?_
  refine z_isubN eX12_findNames_18 (by omega) (by omega) ?_
  rw [show ((2 ^ nN D : Nat) : Int) - 1 = ((2 ^ nN D - 1 : Nat) : Int) by omega]
  refine z_is1 eX12_findNames_19 zn2 ?_
  refine z_al0 eX12_findNames_20 ?_
  refine z_gi eX12_findNames_21 fX12_369 zs117 ?_
  refine z_ki eX12_findNames_24 ?_
  refine z_iand eX12_findNames_25 ?_
  refine z_ki eX12_findNames_26 ?_
  rw [f117 59 (by decide) (by decide), k4]
  refine z_cne eX12_findNames_27 rfl (fun c27 => ?_) (fun c27 => ?_)
  · refine z_ki eX12_findNames_41 ?_
    refine z_al0 eX12_findNames_42 ?_
    refine z_gi eX12_findNames_43 fX12_369 zs117 ?_
    refine z_ki eX12_findNames_46 ?_
    refine z_iand eX12_findNames_47 ?_
    refine z_ki eX12_findNames_48 ?_
    rw [f117 59 (by decide) (by decide), k4]
    refine z_cne eX12_findNames_49 rfl (fun c49 => ?_) (fun c49 => ?_)
    · refine z_ki eX12_findNames_61 ?_
      refine z_ior eX12_findNames_62 ?_
      refine z_is2 eX12_findNames_63 zn0 ?_
      refine z_ki eX12_findNames_64 ?_
      refine z_is3 eX12_findNames_65 zn0 ?_
      exfalso
      omega
    · refine z_al0 eX12_findNames_52 ?_
      refine z_ga eX12_findNames_53 fX12_35 zs117 (t := 122) rfl ?_
      refine z_ki eX12_findNames_56 ?_
      refine zr_iN eX12_findNames_57 zs122 (j := 2) (by omega) (by omega) ?_
      rw [dS]
      refine z_goto eX12_findNames_58 rfl ?_
      refine z_ior eX12_findNames_62 ?_
      refine z_is2 eX12_findNames_63 zn0 ?_
      refine z_ki eX12_findNames_64 ?_
      refine z_is3 eX12_findNames_65 zn0 ?_
      refine r_findN_l h D hb hst a wn kd cheap _ (fun x hx => ?_) _ 0 g (Nat.zero_add _) hmf hmw (by rw [f117 58 (by decide) (by decide), f117 56 (by decide) (by decide), f117 57 (by decide) (by decide)]; exact ⟨k1, k2, k3⟩) (bR_0 f46)
      have e : kd = 2 := by omega
      subst e
      rw [badM2 (by omega) (by omega)]
      rfl
  · refine z_al0 eX12_findNames_30 ?_
    refine z_ga eX12_findNames_31 fX12_35 zs117 (t := 122) rfl ?_
    refine z_ki eX12_findNames_34 ?_
    refine zr_iN eX12_findNames_35 zs122 (j := 2) (by omega) (by omega) ?_
    rw [dS]
    refine z_ki eX12_findNames_36 ?_
    refine z_ixor eX12_findNames_37 ?_
    refine z_goto eX12_findNames_38 rfl ?_
    refine z_al0 eX12_findNames_42 ?_
    refine z_gi eX12_findNames_43 fX12_369 zs117 ?_
    refine z_ki eX12_findNames_46 ?_
    refine z_iand eX12_findNames_47 ?_
    refine z_ki eX12_findNames_48 ?_
    rw [f117 59 (by decide) (by decide), k4]
    refine z_cne eX12_findNames_49 rfl (fun c49 => ?_) (fun c49 => ?_)
    · refine z_ki eX12_findNames_61 ?_
      refine z_ior eX12_findNames_62 ?_
      refine z_is2 eX12_findNames_63 zn0 ?_
      refine z_ki eX12_findNames_64 ?_
      refine z_is3 eX12_findNames_65 zn0 ?_
      refine r_findN_l h D hb hst a wn kd cheap _ (fun x hx => ?_) _ 0 g (Nat.zero_add _) hmf hmw (by rw [f117 58 (by decide) (by decide), f117 56 (by decide) (by decide), f117 57 (by decide) (by decide)]; exact ⟨k1, k2, k3⟩) (bR_0 f46)
      have e : kd = 1 := by omega
      subst e
      rw [badM1 (by omega)]
      rfl
    · refine z_al0 eX12_findNames_52 ?_
      refine z_ga eX12_findNames_53 fX12_35 zs117 (t := 122) rfl ?_
      refine z_ki eX12_findNames_56 ?_
      refine zr_iN eX12_findNames_57 zs122 (j := 2) (by omega) (by omega) ?_
      rw [dS]
      refine z_goto eX12_findNames_58 rfl ?_
      refine z_ior eX12_findNames_62 ?_
      refine z_is2 eX12_findNames_63 zn0 ?_
      refine z_ki eX12_findNames_64 ?_
      refine z_is3 eX12_findNames_65 zn0 ?_
      refine r_findN_l h D hb hst a wn kd cheap _ (fun x hx => ?_) _ 0 g (Nat.zero_add _) hmf hmw (by rw [f117 58 (by decide) (by decide), f117 56 (by decide) (by decide), f117 57 (by decide) (by decide)]; exact ⟨k1, k2, k3⟩) (bR_0 f46)
      have e : kd = 3 := by omega
      subst e
      rw [badM3]
      rfl
theorem r_names (h : zHp) (D : Nat → Int) (hD : h 122 = D) (hb : dB D) (hst : D 2 < ((2 ^ nN D : Nat) : Int)) (a wn kd cheap : Int) (hwn : wn = 0 ∨ wn = 1) (hch : cheap = 0 ∨ cheap = 1) : zCi mX12_names 9 [zA 117, zI a, zI wn, zI kd, zI cheap] h (fun v h' => pM3 h (qNames D a wn kd cheap) (fun g => g 117 52 = 1 ∧ g 117 49 = (nmF D a wn kd cheap (2 ^ nN D)).2.1 ∧ g 117 50 = (nmF D a wn kd cheap (2 ^ nN D)).2.2) v h') := by
  refine z_enter [zA 117, zI a, zI wn, zI kd, zI cheap] (by decide +kernel) (Nat.le_of_ble_eq_true rfl) rfl (fun hra hrg => ?_)
  refine z_al0 eX12_names_0 ?_
  refine z_ki eX12_names_1 ?_
  refine z_pi eX12_names_2 pX12_98 zs117 ?_
  refine z_al0 eX12_names_5 ?_
  refine z_ki eX12_names_6 ?_
  refine z_pi eX12_names_7 pX12_101 zs117 ?_
  generalize hg : zup (zup h 117 1 0) 117 0 0 = g
  obtain ⟨ga, gf, g0⟩ := m_g hg
  have gD : g 122 = D := (ga 122 (by decide)).trans hD
  subst gD
  have hN := nN_eq hb
  have hS := nS_eq hb
  have hN8 := nN_le hb
  have hS20 := nS_le hb
  have hb2 := hb.2.2.1
  refine z_al0 eX12_names_10 ?_
  refine z_il1 eX12_names_11 ?_
  refine zc_vi1 eX12_names_12 lX12_278 tX12_isName zs117 (by decide) (Nat.le_of_ble_eq_true rfl) (r_isName _ _ rfl hb _) ?_
  rintro _ _ ⟨rfl, rfl⟩ -
  refine z_ine eX12_names_15 rfl (fun c15 => ?_) (fun c15 => ?_)
  · have z15 := iteT c15
    refine z_il3 eX12_names_24 ?_
    refine z_i2l eX12_names_25 ?_
    refine z_kj eX12_names_26 ?_
    refine z_kj eX12_names_27 ?_
    refine zc_si3 eX12_names_30 lX12_133 tX12_isIn (by decide) (Nat.le_of_ble_eq_true rfl) (r_isIn _ _ _ _) ?_
    rintro _ _ ⟨rfl, rfl⟩ -
    refine z_ine eX12_names_33 rfl (fun c33 => ?_) (fun c33 => ?_)
    · have z33 := iteT c33
      refine z_al0 eX12_names_42 ?_
      refine z_il1 eX12_names_43 ?_
      refine z_il2 eX12_names_44 ?_
      refine z_il3 eX12_names_45 ?_
      refine z_ki eX12_names_46 ?_
      refine z_il4 eX12_names_47 ?_
      refine zc_vv5 eX12_names_49 lX12_390 tX12_aim zs117 (by decide) (Nat.le_of_ble_eq_true rfl) (r_aim _ a wn kd 0 cheap hwn hch) ?_
      rintro _ rfl
      have hma : zMf g (zup (zup (zup (zup (zup g 117 58 a) 117 56 wn) 117 59 kd) 117 60 0) 117 57 cheap) := ((((zMf.rf.up (by omega) (by omega) rfl).up (by omega) (by omega) rfl).up (by omega) (by omega) rfl).up (by omega) (by omega) rfl).up (by omega) (by omega) rfl
      refine z_al0 eX12_names_52 ?_
      refine zc_vv0 eX12_names_53 lX12_394 tX12_findNames zs117 (by decide) (Nat.le_of_ble_eq_true rfl) (r_findN _ (g 122) (by rw [zup_off (by decide), zup_off (by decide), zup_off (by decide), zup_off (by decide), zup_off (by decide)]) hb hst a wn kd cheap (by omega) (by rw [zup_ne (by decide), zup_ne (by decide), zup_ne (by decide), zup_ne (by decide), zup_at]) (by rw [zup_ne (by decide), zup_ne (by decide), zup_ne (by decide), zup_at]) (zup_at _ _ _ _) (by rw [zup_ne (by decide), zup_ne (by decide), zup_at])) ?_
      rintro g2 ⟨hmf, hd2, R⟩
      have hm2 := hma.tr hmf
      refine z_al0 eX12_names_56 ?_
      refine z_gi eX12_names_57 fX12_354 zs117 ?_
      rw [R.1]
      refine z_ige eX12_names_60 rfl (fun c60 => ?_) (fun c60 => ?_)
      · refine z_al0 eX12_names_70 ?_
        refine z_ki eX12_names_71 ?_
        refine z_pi eX12_names_72 pX12_397 zs117 ?_
        refine z_al0 eX12_names_75 ?_
        refine z_al0 eX12_names_76 ?_
        refine z_gi eX12_names_77 fX12_360 zs117 ?_
        rw [zup_ne (by decide)]
        refine z_pi eX12_names_80 pX12_400 zs117 ?_
        refine z_al0 eX12_names_83 ?_
        refine z_al0 eX12_names_84 ?_
        refine z_gi eX12_names_85 fX12_378 zs117 ?_
        rw [zup_ne (by decide), zup_ne (by decide)]
        refine z_pi eX12_names_88 pX12_403 zs117 ?_
        refine z_al0 eX12_names_91 ?_
        refine z_gi eX12_names_92 fX12_354 zs117 ?_
        rw [zup_ne (by decide), zup_ne (by decide), zup_ne (by decide), R.1]
        refine ze_i eX12_names_95 rfl ?_
        have R3 := R.2.2 (by omega)
        rw [show qNames (g 122) a wn kd cheap = ((nmF (g 122) a wn kd cheap (2 ^ nN (g 122))).1, 0) by unfold qNames; rw [if_pos z15, if_pos z33, if_neg (by omega)]]
        have r0 := pM0_f (q := ((0 : Int), (0 : Int))) hg hm2 rfl
        refine ⟨rfl, by rw [zup_ne (by decide), zup_ne (by decide), zup_ne (by decide)]; exact r0.2.1, fun b hb => by rw [zup_off (by omega), zup_off (by omega), zup_off (by omega)]; exact r0.2.2.1 b hb, fun _ => ⟨?_, ?_, ?_, ?_⟩, fun q => absurd rfl q⟩
        · exact zEx.up (zEx.up (zEx.up (r0.2.2.2.wk (by simp)) (Or.inr (show 3 ∈ [3] by decide))) (Or.inr (show 3 ∈ [3] by decide))) (Or.inr (show 3 ∈ [3] by decide))
        · rw [zup_ne (by decide), zup_ne (by decide), zup_at]
        · rw [zup_ne (by decide), zup_at]; exact R3.1
        · rw [zup_at]; exact R3.2
      · refine z_al0 eX12_names_63 ?_
        refine z_ki eX12_names_64 ?_
        refine zc_vi1 eX12_names_66 lX12_275 tX12_refuse zs117 (by decide) (Nat.le_of_ble_eq_true rfl) (r_refuse _ _) ?_
        rintro _ _ ⟨rfl, rfl⟩ -
        refine ze_i eX12_names_69 rfl ?_
        exact pM3_no hg hm2 (by unfold qNames; (repeat' split) <;> first | (exfalso; omega) | rfl) (by decide)
    · have z33 := iteF c33
      refine z_al0 eX12_names_36 ?_
      refine z_ki eX12_names_37 ?_
      refine zc_vi1 eX12_names_38 lX12_275 tX12_refuse zs117 (by decide) (Nat.le_of_ble_eq_true rfl) (r_refuse _ _) ?_
      rintro _ _ ⟨rfl, rfl⟩ -
      refine ze_i eX12_names_41 rfl ?_
      exact pM3_no hg zMf.rf (by unfold qNames; (repeat' split) <;> first | (exfalso; omega) | rfl) (by decide)
  · have z15 := iteF c15
    refine z_al0 eX12_names_18 ?_
    refine z_ki eX12_names_19 ?_
    refine zc_vi1 eX12_names_20 lX12_275 tX12_refuse zs117 (by decide) (Nat.le_of_ble_eq_true rfl) (r_refuse _ _) ?_
    rintro _ _ ⟨rfl, rfl⟩ -
    refine ze_i eX12_names_23 rfl ?_
    exact pM3_no hg zMf.rf (by unfold qNames; (repeat' split) <;> first | (exfalso; omega) | rfl) (by decide)
