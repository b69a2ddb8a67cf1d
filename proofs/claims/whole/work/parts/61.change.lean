-- changes of a hall; told (written by wip/tools/specC1.py)
theorem zldiv_e {x y : Int} (hx : z64 x) (h0 : 0 ≤ x) (hy : 0 < y) (hy2 : y < 9223372036854775808) : zldiv x y = x / y := by
  unfold zldiv
  have hyz : z64 y := by unfold z64; omega
  have hne : Int64.ofInt y ≠ -1 := fun q => by
    have q2 := congrArg Int64.toInt q
    rw [z64_ti hyz] at q2
    have : (-1 : Int64).toInt = -1 := by decide
    omega
  rw [Int64.toInt_div_of_ne_right _ _ hne, z64_ti hx, z64_ti hyz, Int.tdiv_eq_ediv_of_nonneg h0]
theorem zlrem_e {x y : Int} (hx : z64 x) (h0 : 0 ≤ x) (hy : 0 < y) (hy2 : y < 9223372036854775808) : zlrem x y = x % y := by
  have hd := zldiv_e hx h0 hy hy2
  have h1 := Int.emod_nonneg x (show y ≠ 0 by omega)
  have h2 := Int.emod_lt_of_pos x hy
  have e : Int64.ofInt x / Int64.ofInt y = Int64.ofInt (x / y) := by
    rw [← hd]
    unfold zldiv
    rw [Int64.ofInt_toInt]
  unfold zlrem
  rw [e, ← Int64.ofInt_mul, ← Int64.ofInt_sub, show x - x / y * y = x % y by rw [Int.emod_def, Int.mul_comm]]
  exact z64_ti ⟨by omega, by omega⟩
theorem zland3 {x : Int} : zland x 3 = x % 4 := by
  have h1 : (Int64.ofInt x &&& Int64.ofInt 3).toBitVec.toNat = (x % 4).toNat := by
    show ((BitVec.ofInt 64 x) &&& 3#64).toNat = _
    rw [BitVec.toNat_and, BitVec.toNat_ofInt, show (3#64).toNat = 2 ^ 2 - 1 from rfl, Nat.and_two_pow_sub_one_eq_mod]
    omega
  show (Int64.ofInt x &&& Int64.ofInt 3).toBitVec.toInt = x % 4
  rw [BitVec.toInt_eq_toNat_of_lt (by rw [h1]; omega), h1]
  omega
theorem zlshr2 {x : Int} (hx : z64 x) : zlshr x 2 = x / 4 := by
  unfold zlshr
  show ((Int64.ofInt x).toBitVec.sshiftRight' (((Int32.ofInt 2).toInt64 &&& 63).toBitVec.smod 64)).toInt = _
  rw [BitVec.toInt_sshiftRight', Int.shiftRight_eq_div_pow, show (((Int32.ofInt 2).toInt64 &&& 63).toBitVec.smod 64).toNat = 2 by decide]
  show (Int64.ofInt x).toInt / 4 = x / 4
  rw [z64_ti hx]
theorem zl2i_i {x : Int} (hx : z32 x) : zl2i x = x := by
  unfold z32 at hx
  unfold zl2i
  rw [Int64.toInt_toInt32, z64_ti ⟨by omega, by omega⟩]
  exact Int.bmod_eq_of_le_mul_two (by omega) (by omega)
/-- what a change leaves of a hall at cell a; none: it can't be -/
def chX (h : zHp) (a : Nat) (k : Int) (w : Nat) : Option zHp := if k < 2 then (if bv (h a 1).toNat w = k then some (zup h a 1 (((h a 1).toNat ^^^ 2 ^ w : Nat) : Int)) else none) else if k = 2 then (if h (a + 6) w = 0 then none else some (zup (zup h (a + 5) w (h (a + 5) w + 1)) (a + 6) w (h (a + 6) w - 1))) else (if h (a + 5) w = 0 then none else some (zup (zup h (a + 5) w (h (a + 5) w + -1)) (a + 6) w (h (a + 6) w - -1)))
def thX (h : zHp) (a : Nat) (k w : Int) : Prop := 0 ≤ w ∧ w < (if k < 2 then h a 0 else h a 7)
/-- bounds of a hall at cell a -/
def bdX (h : zHp) (a : Nat) : Prop := (0 ≤ h a 0 ∧ h a 0 ≤ 8) ∧ (0 ≤ h a 7 ∧ h a 7 ≤ 20) ∧ (0 ≤ h a 1 ∧ h a 1 < 256) ∧ ∀ s : Nat, (s : Int) < h a 7 → 0 ≤ h (a + 5) s ∧ 0 ≤ h (a + 6) s ∧ h (a + 5) s + h (a + 6) s ≤ 198
theorem x_isThere (h : zHp) (a : Nat) (ha : isH a) (hb : bdX h a) (k w : Int) (hk : 0 ≤ k ∧ k ≤ 3) : zCi mX5_isThere 0 [zA a, zI k, zI w] h (fun v h' => (thX h a k w → (1 : Int) = v) ∧ (¬ thX h a k w → (0 : Int) = v) ∧ h = h') := by
  refine z_enter [zA a, zI k, zI w] (by decide +kernel) (Nat.le_of_ble_eq_true rfl) rfl (fun hra hrg => ?_)
  refine z_il2 eX5_isThere_0 ?_
  refine z_ilt eX5_isThere_1 rfl (fun c1 => ?_) (fun c1 => ?_)
  · refine z_ki eX5_isThere_28 ?_
    refine ze_z eX5_isThere_29 rfl (by first | exact Or.inl rfl | exact Or.inr rfl) ?_
    refine ⟨fun z => ?_, fun z => ?_, rfl⟩
    · exfalso; unfold thX at z; split at z <;> omega
    · rfl
  · refine z_il2 eX5_isThere_4 ?_
    refine z_il1 eX5_isThere_5 ?_
    refine z_ki eX5_isThere_6 ?_
    refine z_cge eX5_isThere_7 rfl (fun c7 => ?_) (fun c7 => ?_)
    · refine z_al0 eX5_isThere_17 ?_
      refine z_gi eX5_isThere_18 fX5_51 (hlS ha) ?_
      refine z_cge eX5_isThere_21 rfl (fun c21 => ?_) (fun c21 => ?_)
      · refine z_ki eX5_isThere_28 ?_
        refine ze_z eX5_isThere_29 rfl (by first | exact Or.inl rfl | exact Or.inr rfl) ?_
        refine ⟨fun z => ?_, fun z => ?_, rfl⟩
        · exfalso; unfold thX at z; split at z <;> omega
        · rfl
      · refine z_ki eX5_isThere_24 ?_
        refine z_goto eX5_isThere_25 rfl ?_
        refine ze_z eX5_isThere_29 rfl (by first | exact Or.inl rfl | exact Or.inr rfl) ?_
        refine ⟨fun z => ?_, fun z => ?_, rfl⟩
        · rfl
        · exfalso; apply z; unfold thX; split <;> omega
    · refine z_al0 eX5_isThere_10 ?_
      refine z_gi eX5_isThere_11 fX5_40 (hlS ha) ?_
      refine z_goto eX5_isThere_14 rfl ?_
      refine z_cge eX5_isThere_21 rfl (fun c21 => ?_) (fun c21 => ?_)
      · refine z_ki eX5_isThere_28 ?_
        refine ze_z eX5_isThere_29 rfl (by first | exact Or.inl rfl | exact Or.inr rfl) ?_
        refine ⟨fun z => ?_, fun z => ?_, rfl⟩
        · exfalso; unfold thX at z; split at z <;> omega
        · rfl
      · refine z_ki eX5_isThere_24 ?_
        refine z_goto eX5_isThere_25 rfl ?_
        refine ze_z eX5_isThere_29 rfl (by first | exact Or.inl rfl | exact Or.inr rfl) ?_
        refine ⟨fun z => ?_, fun z => ?_, rfl⟩
        · rfl
        · exfalso; apply z; unfold thX; split <;> omega
theorem x_costOf (h : zHp) (a : Nat) (ha : isH a) (hb : bdX h a) (k w : Int) (hk : 0 ≤ k ∧ k ≤ 3) : zCi mX5_costOf 1 [zA a, zI k, zI w] h (fun v h' => (thX h a k w → (if k < 2 then h (a + 2) w.toNat else h (a + 7) w.toNat) = v) ∧ (¬ thX h a k w → (0 : Int) = v) ∧ h = h') := by
  refine z_enter [zA a, zI k, zI w] (by decide +kernel) (Nat.le_of_ble_eq_true rfl) rfl (fun hra hrg => ?_)
  refine z_al0 eX5_costOf_0 ?_
  refine z_il1 eX5_costOf_1 ?_
  refine z_il2 eX5_costOf_2 ?_
  refine zc_vi2 eX5_costOf_3 lX5_64 tX5_isThere (hlS ha) (by decide) (Nat.le_of_ble_eq_true rfl) (x_isThere h a ha hb k w hk) ?_
  rintro y _ ⟨t1, t2, rfl⟩ -
  refine z_ine eX5_costOf_6 rfl (fun c6 => ?_) (fun c6 => ?_)
  · have z : thX h a k w := Classical.byContradiction (fun z => by have := t2 z; omega)
    obtain ⟨b0, b7, b1, bs⟩ := hb
    have zz := id z
    unfold thX at zz
    refine z_il1 eX5_costOf_11 ?_
    refine z_ki eX5_costOf_12 ?_
    refine z_cge eX5_costOf_13 rfl (fun c13 => ?_) (fun c13 => ?_)
    · refine z_al0 eX5_costOf_25 ?_
      refine z_ga eX5_costOf_26 fX5_31 (hlS ha) (t := (a + 7)) (hlR7 ha) ?_
      refine z_il2 eX5_costOf_29 ?_
      refine zr_iN eX5_costOf_30 (hlS7 ha) (j := w.toNat) (by omega) (by split at zz <;> omega) ?_
      refine ze_i eX5_costOf_31 rfl ?_
      exact ⟨fun _ => if_neg (by omega), fun q => absurd z q, rfl⟩
    · refine z_al0 eX5_costOf_16 ?_
      refine z_ga eX5_costOf_17 fX5_15 (hlS ha) (t := (a + 2)) (hlR2 ha) ?_
      refine z_il2 eX5_costOf_20 ?_
      refine zr_iN eX5_costOf_21 (hlS2 ha) (j := w.toNat) (by omega) (by split at zz <;> omega) ?_
      refine z_goto eX5_costOf_22 rfl ?_
      refine ze_i eX5_costOf_31 rfl ?_
      exact ⟨fun _ => if_pos (by omega), fun q => absurd z q, rfl⟩
  · have z : ¬ thX h a k w := fun z => by have := t1 z; omega
    refine z_ki eX5_costOf_9 ?_
    refine ze_i eX5_costOf_10 rfl ?_
    exact ⟨fun q => absurd q z, fun _ => rfl, rfl⟩
theorem x_turn (h : zHp) (a : Nat) (ha : isH a) (n : Nat) (hn : h a 1 = (n : Int)) (hn2 : n < 256) (w : Nat) (hw : w < 8) (u : Int) (hu : u = 0 ∨ u = 1) : zCi mX5_turn 0 [zA a, zI (2 ^ w : Nat), zI u] h (fun v h' => (bv n w = 1 - u → (1 : Int) = v ∧ zup h a 1 ((n ^^^ 2 ^ w : Nat) : Int) = h') ∧ (¬ bv n w = 1 - u → (0 : Int) = v ∧ h = h')) := by
  refine z_enter [zA a, zI (2 ^ w : Nat), zI u] (by decide +kernel) (Nat.le_of_ble_eq_true rfl) rfl (fun hra hrg => ?_)
  have hp2 := Nat.pow_le_pow_right (n := 2) (by omega) (show w ≤ 7 by omega)
  have hpp := Nat.two_pow_pos w
  have hbv : bv n w = if n.testBit w = true then 1 else 0 := rfl
  refine z_al0 eX5_turn_0 ?_
  refine z_gi eX5_turn_1 fX5_44 (hlS ha) ?_
  refine z_il1 eX5_turn_4 ?_
  refine z_iand eX5_turn_5 ?_
  rw [hn, kb_and (by omega), and_p2]
  refine z_ine eX5_turn_6 rfl (fun c6 => ?_) (fun c6 => ?_)
  · have tb : n.testBit w = true := Classical.byContradiction (fun z => by rw [if_neg z] at c6; exact c6 rfl)
    rw [if_pos tb] at hbv
    refine z_ki eX5_turn_13 ?_
    refine z_il2 eX5_turn_14 ?_
    refine z_ceq eX5_turn_15 rfl (fun c15 => ?_) (fun c15 => ?_)
    · refine z_al0 eX5_turn_20 ?_
      refine z_dup eX5_turn_21 zn2 ?_
      refine z_gi eX5_turn_22 fX5_44 (hlS ha) ?_
      refine z_il1 eX5_turn_25 ?_
      refine z_ixor eX5_turn_26 ?_
      rw [hn, kb_xor (by omega) (by omega)]
      refine z_pi eX5_turn_27 pX5_44 (hlS ha) ?_
      refine z_ki eX5_turn_30 ?_
      refine ze_z eX5_turn_31 rfl (by first | exact Or.inl rfl | exact Or.inr rfl) ?_
      exact ⟨fun q => ⟨rfl, rfl⟩, fun q => by omega⟩
    · refine z_ki eX5_turn_18 ?_
      refine ze_z eX5_turn_19 rfl (by first | exact Or.inl rfl | exact Or.inr rfl) ?_
      exact ⟨fun q => by omega, fun _ => ⟨rfl, rfl⟩⟩
  · have tb : ¬ n.testBit w = true := fun z => by rw [if_pos z] at c6; omega
    rw [if_neg tb] at hbv
    refine z_ki eX5_turn_9 ?_
    refine z_goto eX5_turn_10 rfl ?_
    refine z_il2 eX5_turn_14 ?_
    refine z_ceq eX5_turn_15 rfl (fun c15 => ?_) (fun c15 => ?_)
    · refine z_al0 eX5_turn_20 ?_
      refine z_dup eX5_turn_21 zn2 ?_
      refine z_gi eX5_turn_22 fX5_44 (hlS ha) ?_
      refine z_il1 eX5_turn_25 ?_
      refine z_ixor eX5_turn_26 ?_
      rw [hn, kb_xor (by omega) (by omega)]
      refine z_pi eX5_turn_27 pX5_44 (hlS ha) ?_
      refine z_ki eX5_turn_30 ?_
      refine ze_z eX5_turn_31 rfl (by first | exact Or.inl rfl | exact Or.inr rfl) ?_
      exact ⟨fun q => ⟨rfl, rfl⟩, fun q => by omega⟩
    · refine z_ki eX5_turn_18 ?_
      refine ze_z eX5_turn_19 rfl (by first | exact Or.inl rfl | exact Or.inr rfl) ?_
      exact ⟨fun q => by omega, fun _ => ⟨rfl, rfl⟩⟩
theorem x_change (h : zHp) (a : Nat) (ha : isH a) (hb : bdX h a) (k w : Int) (hk : 0 ≤ k ∧ k ≤ 3) : zCi mX5_change 1 [zA a, zI k, zI w] h (fun v h' => (¬ thX h a k w → (0 : Int) = v ∧ h = h') ∧ (thX h a k w → (∀ g, chX h a k w.toNat = some g → (1 : Int) = v ∧ g = h') ∧ (chX h a k w.toNat = none → (0 : Int) = v ∧ h = h'))) := by
  refine z_enter [zA a, zI k, zI w, zU] (by decide +kernel) (Nat.le_of_ble_eq_true rfl) rfl (fun hra hrg => ?_)
  refine z_al0 eX5_change_0 ?_
  refine z_il1 eX5_change_1 ?_
  refine z_il2 eX5_change_2 ?_
  refine zc_vi2 eX5_change_3 lX5_64 tX5_isThere (hlS ha) (by decide) (Nat.le_of_ble_eq_true rfl) (x_isThere h a ha hb k w hk) ?_
  rintro y _ ⟨t1, t2, rfl⟩ -
  refine z_ine eX5_change_6 rfl (fun c6 => ?_) (fun c6 => ?_)
  · have z : thX h a k w := Classical.byContradiction (fun z => by have := t2 z; omega)
    obtain ⟨b0, b7, b1, bs⟩ := id hb
    have zz := id z
    unfold thX at zz
    obtain ⟨w, rfl⟩ := Int.eq_ofNat_of_zero_le zz.1
    simp only [Int.toNat_natCast]
    refine z_il1 eX5_change_11 ?_
    refine z_ki eX5_change_12 ?_
    refine z_cge eX5_change_13 rfl (fun c13 => ?_) (fun c13 => ?_)
    · rw [if_neg (show ¬ k < 2 by omega)] at zz
      have bw := bs w (by omega)
      refine z_il1 eX5_change_33 ?_
      refine z_ki eX5_change_34 ?_
      refine z_cne eX5_change_35 rfl (fun c35 => ?_) (fun c35 => ?_)
      · refine z_ki eX5_change_42 ?_
        refine z_is3 eX5_change_43 zn0 ?_
        refine z_il1 eX5_change_44 ?_
        refine z_ki eX5_change_45 ?_
        refine z_cne eX5_change_46 rfl (fun c46 => ?_) (fun c46 => ?_)
        · refine z_al0 eX5_change_58 ?_
          refine z_ga eX5_change_59 fX5_25 (hlS ha) (t := (a + 5)) (hlR5 ha) ?_
          refine z_il2 eX5_change_62 ?_
          refine zr_iN eX5_change_63 (hlS5 ha) (j := w) (by omega) (by omega) ?_
          refine z_ine eX5_change_64 rfl (fun c64 => ?_) (fun c64 => ?_)
          · refine z_al0 eX5_change_69 ?_
            refine z_ga eX5_change_70 fX5_25 (hlS ha) (t := (a + 5)) (hlR5 ha) ?_
            refine z_il2 eX5_change_73 ?_
            refine z_dup2 eX5_change_74 zn0 zn2 ?_
            refine zr_iN eX5_change_75 (hlS5 ha) (j := w) (by omega) (by omega) ?_
            refine z_il3 eX5_change_76 ?_
            refine z_iaddN eX5_change_77 (by omega) (by omega) ?_
            refine zs_iN eX5_change_78 (hlS5 ha) (j := w) (by omega) (by omega) ?_
            refine z_al0 eX5_change_79 ?_
            refine z_ga eX5_change_80 fX5_28 (hlS ha) (t := (a + 6)) (hlR6 ha) ?_
            refine z_il2 eX5_change_83 ?_
            refine z_dup2 eX5_change_84 zn0 zn2 ?_
            refine zr_iN eX5_change_85 (hlS6 ha) (j := w) (by omega) (by omega) ?_
            rw [zup_off (by omega)]
            refine z_il3 eX5_change_86 ?_
            refine z_isubN eX5_change_87 (by omega) (by omega) ?_
            refine zs_iN eX5_change_88 (hlS6 ha) (j := w) (by omega) (by omega) ?_
            refine z_ki eX5_change_89 ?_
            refine ze_z eX5_change_90 rfl (by first | exact Or.inl rfl | exact Or.inr rfl) ?_
            refine ⟨fun q => absurd z q, fun _ => ⟨fun g hg => ?_, fun hg => ?_⟩⟩
            · unfold chX at hg
              rw [if_neg (by omega), if_neg (by omega), if_neg c64] at hg
              cases hg
              exact ⟨rfl, rfl⟩
            · unfold chX at hg
              rw [if_neg (by omega), if_neg (by omega), if_neg c64] at hg
              cases hg
          · refine z_ki eX5_change_67 ?_
            refine ze_z eX5_change_68 rfl (by first | exact Or.inl rfl | exact Or.inr rfl) ?_
            refine ⟨fun q => absurd z q, fun _ => ⟨fun g hg => ?_, fun hg => ⟨rfl, rfl⟩⟩⟩
            unfold chX at hg
            rw [if_neg (by omega), if_neg (by omega), if_pos c64] at hg
            cases hg
        · exact absurd c46 c35
      · refine z_ki eX5_change_38 ?_
        refine z_goto eX5_change_39 rfl ?_
        refine z_is3 eX5_change_43 zn0 ?_
        refine z_il1 eX5_change_44 ?_
        refine z_ki eX5_change_45 ?_
        refine z_cne eX5_change_46 rfl (fun c46 => ?_) (fun c46 => ?_)
        · exact absurd c35 c46
        · refine z_al0 eX5_change_49 ?_
          refine z_ga eX5_change_50 fX5_28 (hlS ha) (t := (a + 6)) (hlR6 ha) ?_
          refine z_il2 eX5_change_53 ?_
          refine zr_iN eX5_change_54 (hlS6 ha) (j := w) (by omega) (by omega) ?_
          refine z_goto eX5_change_55 rfl ?_
          refine z_ine eX5_change_64 rfl (fun c64 => ?_) (fun c64 => ?_)
          · refine z_al0 eX5_change_69 ?_
            refine z_ga eX5_change_70 fX5_25 (hlS ha) (t := (a + 5)) (hlR5 ha) ?_
            refine z_il2 eX5_change_73 ?_
            refine z_dup2 eX5_change_74 zn0 zn2 ?_
            refine zr_iN eX5_change_75 (hlS5 ha) (j := w) (by omega) (by omega) ?_
            refine z_il3 eX5_change_76 ?_
            refine z_iaddN eX5_change_77 (by omega) (by omega) ?_
            refine zs_iN eX5_change_78 (hlS5 ha) (j := w) (by omega) (by omega) ?_
            refine z_al0 eX5_change_79 ?_
            refine z_ga eX5_change_80 fX5_28 (hlS ha) (t := (a + 6)) (hlR6 ha) ?_
            refine z_il2 eX5_change_83 ?_
            refine z_dup2 eX5_change_84 zn0 zn2 ?_
            refine zr_iN eX5_change_85 (hlS6 ha) (j := w) (by omega) (by omega) ?_
            rw [zup_off (by omega)]
            refine z_il3 eX5_change_86 ?_
            refine z_isubN eX5_change_87 (by omega) (by omega) ?_
            refine zs_iN eX5_change_88 (hlS6 ha) (j := w) (by omega) (by omega) ?_
            refine z_ki eX5_change_89 ?_
            refine ze_z eX5_change_90 rfl (by first | exact Or.inl rfl | exact Or.inr rfl) ?_
            refine ⟨fun q => absurd z q, fun _ => ⟨fun g hg => ?_, fun hg => ?_⟩⟩
            · unfold chX at hg
              rw [if_neg (by omega), if_pos (by omega), if_neg c64] at hg
              cases hg
              exact ⟨rfl, rfl⟩
            · unfold chX at hg
              rw [if_neg (by omega), if_pos (by omega), if_neg c64] at hg
              cases hg
          · refine z_ki eX5_change_67 ?_
            refine ze_z eX5_change_68 rfl (by first | exact Or.inl rfl | exact Or.inr rfl) ?_
            refine ⟨fun q => absurd z q, fun _ => ⟨fun g hg => ?_, fun hg => ⟨rfl, rfl⟩⟩⟩
            unfold chX at hg
            rw [if_neg (by omega), if_pos (by omega), if_pos c64] at hg
            cases hg
    · rw [if_pos (show k < 2 by omega)] at zz
      refine z_al0 eX5_change_16 ?_
      refine z_ki eX5_change_17 ?_
      refine z_il2 eX5_change_18 ?_
      refine z_ishl eX5_change_19 ?_
      rw [kb_shl1 (by omega)]
      refine z_il1 eX5_change_20 ?_
      refine z_ine eX5_change_21 rfl (fun c21 => ?_) (fun c21 => ?_)
      · refine z_ki eX5_change_28 ?_
        refine zc_vi2 eX5_change_29 lX5_68 tX5_turn (hlS ha) (by decide) (Nat.le_of_ble_eq_true rfl) (x_turn h a ha (h a 1).toNat (by omega) (by omega) w (by omega) _ (by first | exact Or.inl rfl | exact Or.inr rfl)) ?_
        rintro y2 h2 ⟨u1, u2⟩ -
        have hy : y2 = 0 ∨ y2 = 1 := by
          by_cases q : bv (h a 1).toNat w = 1 - 0
          · exact Or.inr (u1 q).1.symm
          · exact Or.inl (u2 q).1.symm
        refine ze_z eX5_change_32 rfl (by first | exact Or.inl hy | exact Or.inr hy | (rcases hy with e | e <;> simp [e])) ?_
        refine ⟨fun q => absurd z q, fun _ => ⟨fun g hg => ?_, fun hg => ?_⟩⟩
        · unfold chX at hg
          rw [if_pos (by omega)] at hg
          split at hg
          · next e => cases hg; have q := u1 (by omega); exact q
          · cases hg
        · unfold chX at hg
          rw [if_pos (by omega)] at hg
          split at hg
          · cases hg
          · next e => exact u2 (by omega)
      · refine z_ki eX5_change_24 ?_
        refine z_goto eX5_change_25 rfl ?_
        refine zc_vi2 eX5_change_29 lX5_68 tX5_turn (hlS ha) (by decide) (Nat.le_of_ble_eq_true rfl) (x_turn h a ha (h a 1).toNat (by omega) (by omega) w (by omega) _ (by first | exact Or.inl rfl | exact Or.inr rfl)) ?_
        rintro y2 h2 ⟨u1, u2⟩ -
        have hy : y2 = 0 ∨ y2 = 1 := by
          by_cases q : bv (h a 1).toNat w = 1 - 1
          · exact Or.inr (u1 q).1.symm
          · exact Or.inl (u2 q).1.symm
        refine ze_z eX5_change_32 rfl (by first | exact Or.inl hy | exact Or.inr hy | (rcases hy with e | e <;> simp [e])) ?_
        refine ⟨fun q => absurd z q, fun _ => ⟨fun g hg => ?_, fun hg => ?_⟩⟩
        · unfold chX at hg
          rw [if_pos (by omega)] at hg
          split at hg
          · next e => cases hg; have q := u1 (by omega); exact q
          · cases hg
        · unfold chX at hg
          rw [if_pos (by omega)] at hg
          split at hg
          · cases hg
          · next e => exact u2 (by omega)
  · have z : ¬ thX h a k w := fun z => by have := t1 z; omega
    refine z_ki eX5_change_9 ?_
    refine ze_z eX5_change_10 rfl (by first | exact Or.inl rfl | exact Or.inr rfl) ?_
    exact ⟨fun _ => ⟨rfl, rfl⟩, fun q => absurd q z⟩
