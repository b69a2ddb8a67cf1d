-- the reference sifts (written by wip/tools/specM2.py)
theorem kb_b1 {s k : Nat} (hs : s < 2147483648) (hk : k < 32) : zand (zshr (s : Int) (k : Int)) 1 = 1 ↔ s.testBit k = true := by
  rw [kb_bit hs hk]
  cases s.testBit k <;> simp
theorem kb_b0 {s k : Nat} (hs : s < 2147483648) (hk : k < 32) : zand (zshr (s : Int) (k : Int)) 1 = 0 ↔ s.testBit k = false := by
  rw [kb_bit hs hk]
  cases s.testBit k <;> simp
def bestN (c : Nat → Int) (set : Nat) : Nat → Int
  | 0 => -1
  | n + 1 => if set.testBit n then max (bestN c set n) (c n) else bestN c set n
def pickN (p : Nat → Bool) : Nat → Nat
  | 0 => 0
  | n + 1 => if p n then pickN p n ||| 2 ^ n else pickN p n
theorem pickN_lt (p : Nat → Bool) (n : Nat) : pickN p n < 2 ^ n := by
  induction n with
  | zero => simp [pickN]
  | succ n ih =>
    have h2 : pickN p n < 2 ^ (n + 1) := Nat.lt_of_lt_of_le ih (Nat.pow_le_pow_right (by omega) (by omega))
    unfold pickN
    split
    · exact Nat.or_lt_two_pow h2 (Nat.pow_lt_pow_right (by omega) (by omega))
    · exact h2
theorem pickN_bit (p : Nat → Bool) (n k : Nat) : (pickN p n).testBit k = (decide (k < n) && p k) := by
  induction n with
  | zero => simp [pickN]
  | succ n ih =>
    unfold pickN
    by_cases hk : k = n
    · subst hk
      split
      · next h => simp [Nat.testBit_or, Nat.testBit_two_pow_self, h]
      · next h =>
        rw [ih]
        simp [h]
    · have e : decide (k < n + 1) = decide (k < n) := decide_eq_decide.mpr (by omega)
      split
      · rw [Nat.testBit_or, ih, Nat.testBit_two_pow_of_ne (by omega), Bool.or_false, e]
      · rw [ih, e]
def grtP (c : Nat → Int) (set n : Nat) : Nat → Bool := fun k => set.testBit k && decide (c k = bestN c set n)
def greatOf (c : Nat → Int) (set n : Nat) : Nat := pickN (grtP c set n) n
theorem p2_31 {k : Nat} (hk : k ≤ 30) : 2 ^ k < 2147483648 := Nat.lt_of_le_of_lt (Nat.pow_le_pow_right (by omega) hk) (by decide)
theorem pick_31 (p : Nat → Bool) {k : Nat} (hk : k ≤ 8) : pickN p k < 256 := Nat.lt_of_lt_of_le (pickN_lt p k) (Nat.pow_le_pow_right (n := 2) (by omega) hk)
theorem r_more_l (h : zHp) (D w : Nat → Int) (hD : h 122 = D) (hw : h 124 = w) (hb : dB D) (hvb : vB D w) (a b : Nat) (ha : a < 8) (hbb : b < 8) : ∀ (r s : Nat), s + r = nS D → zRW mX12_more 1 (0, 0) 5 [zA 117, zI a, zI b, zI (sumN (morS D w a b) s), zI s] [] 143 h (zqi (fun v h' => moreOf D w a b = v ∧ h = h')) := by
  subst hD
  subst hw
  have hS := nS_eq hb
  have hS20 := nS_le hb
  have e2 : 2 ^ a ||| 2 ^ b < 256 := Nat.or_lt_two_pow (n := 8) (Nat.pow_lt_pow_right (by omega) ha) (Nat.pow_lt_pow_right (by omega) hbb)
  intro r
  induction r using Nat.strongRecOn with
  | ind r ih =>
    intro s hs
    refine z_il4 eX12_more_5 ?_
    refine z_al0 eX12_more_7 ?_
    refine z_ga eX12_more_8 fX12_35 zs117 (t := 122) rfl ?_
    refine z_ki eX12_more_11 ?_
    refine zr_iN eX12_more_12 zs122 (j := 1) (by omega) (by omega) ?_
    refine z_cge eX12_more_13 rfl (fun c13 => ?_) (fun c13 => ?_)
    · refine z_il3 eX12_more_60 ?_
      refine ze_i eX12_more_61 rfl ?_
      have e : s = nS (h 122) := by omega
      subst e
      exact ⟨rfl, rfl⟩
    · have hv := hvb s (by omega)
      have hsum := morS_b hvb a b s (by omega)
      refine z_il3 eX12_more_16 ?_
      refine z_al0 eX12_more_17 ?_
      refine z_il4 eX12_more_18 ?_
      refine z_il1 eX12_more_20 ?_
      refine z_ki eX12_more_21 ?_
      refine z_il1 eX12_more_22 ?_
      refine z_ishl eX12_more_23 ?_
      refine z_ki eX12_more_24 ?_
      refine z_il2 eX12_more_25 ?_
      refine z_ishl eX12_more_26 ?_
      refine z_ior eX12_more_27 ?_
      rw [kb_shl1 (by omega), kb_shl1 (by omega), kb_or (p2_31 (by omega)) (p2_31 (by omega))]
      refine zc_vi3 eX12_more_28 lX12_290 tX12_placeIn zs117 (by decide) (Nat.le_of_ble_eq_true rfl) (r_placeIn _ _ rfl hb s (by omega) a (2 ^ a ||| 2 ^ b) (by omega)) ?_
      rintro _ _ ⟨rfl, rfl⟩ -
      refine z_ine eX12_more_31 rfl (fun c31 => ?_) (fun c31 => ?_)
      · refine z_al0 eX12_more_44 ?_
        refine z_ga eX12_more_45 fX12_41 zs117 (t := 124) rfl ?_
        refine z_il4 eX12_more_48 ?_
        refine zr_iN eX12_more_50 zs124 (j := s) (by omega) (by omega) ?_
        refine z_inegN eX12_more_51 (by omega) ?_
        refine z_iaddN eX12_more_52 (by omega) (by omega) ?_
        refine z_is3 eX12_more_53 zn0 ?_
        refine z_incN4 eX12_more_54 zn0 (by omega) (by omega) ?_
        refine z_goto eX12_more_57 rfl ?_
        have e : sumN (morS (h 122) (h 124) a b) (s + 1) = sumN (morS (h 122) (h 124) a b) s + morS (h 122) (h 124) a b s := rfl
        first | rw [show morS (h 122) (h 124) a b s = h 124 s from if_pos c31] at e | rw [show morS (h 122) (h 124) a b s = - h 124 s from if_neg c31] at e
        rw [← e]
        exact ih (r - 1) (by omega) (s + 1) (by omega)
      · refine z_al0 eX12_more_34 ?_
        refine z_ga eX12_more_35 fX12_41 zs117 (t := 124) rfl ?_
        refine z_il4 eX12_more_38 ?_
        refine zr_iN eX12_more_40 zs124 (j := s) (by omega) (by omega) ?_
        refine z_goto eX12_more_41 rfl ?_
        refine z_iaddN eX12_more_52 (by omega) (by omega) ?_
        refine z_is3 eX12_more_53 zn0 ?_
        refine z_incN4 eX12_more_54 zn0 (by omega) (by omega) ?_
        refine z_goto eX12_more_57 rfl ?_
        have e : sumN (morS (h 122) (h 124) a b) (s + 1) = sumN (morS (h 122) (h 124) a b) s + morS (h 122) (h 124) a b s := rfl
        first | rw [show morS (h 122) (h 124) a b s = h 124 s from if_pos c31] at e | rw [show morS (h 122) (h 124) a b s = - h 124 s from if_neg c31] at e
        rw [← e]
        exact ih (r - 1) (by omega) (s + 1) (by omega)
theorem r_more (h : zHp) (D w : Nat → Int) (hD : h 122 = D) (hw : h 124 = w) (hb : dB D) (hvb : vB D w) (a b : Nat) (ha : a < 8) (hbb : b < 8) : zCi mX12_more 1 [zA 117, zI a, zI b] h (fun v h' => moreOf D w a b = v ∧ h = h') := by
  refine z_enter [zA 117, zI a, zI b, zU, zU] (by decide +kernel) (Nat.le_of_ble_eq_true rfl) rfl (fun hra hrg => ?_)
  refine z_ki eX12_more_0 ?_
  refine z_is3 eX12_more_1 zn0 ?_
  refine z_ki eX12_more_2 ?_
  refine z_is4 eX12_more_3 zn0 ?_
  exact r_more_l h D w hD hw hb hvb a b ha hbb _ 0 (Nat.zero_add _)
theorem r_greatest_2 (h : zHp) (D c : Nat → Int) (hD : h 122 = D) (hc : h 125 = c) (hb : dB D) (set : Nat) (hset : set < 256) : ∀ (r k : Nat), k + r = nN D → zRW mX12_greatest 1 (0, 0) 45 [zA 117, zI set, zI (bestN c set (nN D)), zI (pickN (grtP c set (nN D)) k : Nat), zI k] [] 143 h (zqi (fun v h' => (greatOf c set (nN D) : Int) = v ∧ h = h')) := by
  subst hD
  subst hc
  have hN := nN_eq hb
  have hN8 := nN_le hb
  intro r
  induction r using Nat.strongRecOn with
  | ind r ih =>
    intro k hk
    refine z_il4 eX12_greatest_45 ?_
    refine z_al0 eX12_greatest_47 ?_
    refine z_ga eX12_greatest_48 fX12_35 zs117 (t := 122) rfl ?_
    refine z_ki eX12_greatest_51 ?_
    refine zr_iN eX12_greatest_52 zs122 (j := 0) (by omega) (by omega) ?_
    refine z_cge eX12_greatest_53 rfl (fun c53 => ?_) (fun c53 => ?_)
    · refine z_il3 eX12_greatest_90 ?_
      refine ze_i eX12_greatest_91 rfl ?_
      have e : k = nN (h 122) := by omega
      subst e
      exact ⟨rfl, rfl⟩
    · refine z_il1 eX12_greatest_56 ?_
      refine z_il4 eX12_greatest_57 ?_
      refine z_ishr eX12_greatest_59 ?_
      refine z_ki eX12_greatest_60 ?_
      refine z_iand eX12_greatest_61 ?_
      refine z_ki eX12_greatest_62 ?_
      refine z_cne eX12_greatest_63 rfl (fun c63 => ?_) (fun c63 => ?_)
      · refine z_incN4 eX12_greatest_84 zn0 (by omega) (by omega) ?_
        refine z_goto eX12_greatest_87 rfl ?_
        have e : pickN (grtP (h 125) set (nN (h 122))) (k + 1) = if grtP (h 125) set (nN (h 122)) k then pickN (grtP (h 125) set (nN (h 122))) k ||| 2 ^ k else pickN (grtP (h 125) set (nN (h 122))) k := rfl
        rw [kb_b1 (by omega) (by omega)] at c63
        have hp : pickN (grtP (h 125) set (nN (h 122))) k < 256 := pick_31 _ (by omega)
        rw [if_neg (by simp [grtP, c63])] at e
        rw [← e]
        exact ih (r - 1) (by omega) (k + 1) (by omega)
      · refine z_al0 eX12_greatest_66 ?_
        refine z_ga eX12_greatest_67 fX12_44 zs117 (t := 125) rfl ?_
        refine z_il4 eX12_greatest_70 ?_
        refine zr_iN eX12_greatest_72 zs125 (j := k) (by omega) (by omega) ?_
        refine z_il2 eX12_greatest_73 ?_
        refine z_cne eX12_greatest_74 rfl (fun c74 => ?_) (fun c74 => ?_)
        · refine z_incN4 eX12_greatest_84 zn0 (by omega) (by omega) ?_
          refine z_goto eX12_greatest_87 rfl ?_
          have e : pickN (grtP (h 125) set (nN (h 122))) (k + 1) = if grtP (h 125) set (nN (h 122)) k then pickN (grtP (h 125) set (nN (h 122))) k ||| 2 ^ k else pickN (grtP (h 125) set (nN (h 122))) k := rfl
          rw [kb_b1 (by omega) (by omega)] at c63
          have hp : pickN (grtP (h 125) set (nN (h 122))) k < 256 := pick_31 _ (by omega)
          rw [if_neg (by simp [grtP, c63, c74])] at e
          rw [← e]
          exact ih (r - 1) (by omega) (k + 1) (by omega)
        · refine z_il3 eX12_greatest_77 ?_
          refine z_ki eX12_greatest_78 ?_
          refine z_il4 eX12_greatest_79 ?_
          refine z_ishl eX12_greatest_81 ?_
          refine z_ior eX12_greatest_82 ?_
          refine z_is3 eX12_greatest_83 zn0 ?_
          refine z_incN4 eX12_greatest_84 zn0 (by omega) (by omega) ?_
          refine z_goto eX12_greatest_87 rfl ?_
          have e : pickN (grtP (h 125) set (nN (h 122))) (k + 1) = if grtP (h 125) set (nN (h 122)) k then pickN (grtP (h 125) set (nN (h 122))) k ||| 2 ^ k else pickN (grtP (h 125) set (nN (h 122))) k := rfl
          rw [kb_b1 (by omega) (by omega)] at c63
          have hp : pickN (grtP (h 125) set (nN (h 122))) k < 256 := pick_31 _ (by omega)
          rw [if_pos (by simp [grtP, c63, c74])] at e
          rw [kb_shl1 (by omega), kb_or (by omega) (p2_31 (by omega)), ← e]
          exact ih (r - 1) (by omega) (k + 1) (by omega)
theorem r_greatest_1 (h : zHp) (D c : Nat → Int) (hD : h 122 = D) (hc : h 125 = c) (hb : dB D) (set : Nat) (hset : set < 256) : ∀ (r k : Nat), k + r = nN D → zRW mX12_greatest 1 (0, 0) 4 [zA 117, zI set, zI (bestN c set k), zI k, zU] [] 143 h (zqi (fun v h' => (greatOf c set (nN D) : Int) = v ∧ h = h')) := by
  have hN := nN_eq hb
  have hN8 := nN_le hb
  intro r
  induction r using Nat.strongRecOn with
  | ind r ih =>
    intro k hk
    subst hD
    subst hc
    refine z_il3 eX12_greatest_4 ?_
    refine z_al0 eX12_greatest_5 ?_
    refine z_ga eX12_greatest_6 fX12_35 zs117 (t := 122) rfl ?_
    refine z_ki eX12_greatest_9 ?_
    refine zr_iN eX12_greatest_10 zs122 (j := 0) (by omega) (by omega) ?_
    refine z_cge eX12_greatest_11 rfl (fun c11 => ?_) (fun c11 => ?_)
    · refine z_ki eX12_greatest_40 ?_
      refine z_is3 eX12_greatest_41 zn0 ?_
      refine z_ki eX12_greatest_42 ?_
      refine z_is4 eX12_greatest_43 zn0 ?_
      have e : k = nN (h 122) := by omega
      subst e
      exact r_greatest_2 h _ _ rfl rfl hb set hset _ 0 (Nat.zero_add _)
    · refine z_il1 eX12_greatest_14 ?_
      refine z_il3 eX12_greatest_15 ?_
      refine z_ishr eX12_greatest_16 ?_
      refine z_ki eX12_greatest_17 ?_
      refine z_iand eX12_greatest_18 ?_
      refine z_ki eX12_greatest_19 ?_
      refine z_cne eX12_greatest_20 rfl (fun c20 => ?_) (fun c20 => ?_)
      · refine z_incN3 eX12_greatest_34 zn0 (by omega) (by omega) ?_
        refine z_goto eX12_greatest_37 rfl ?_
        rw [kb_b1 (by omega) (by omega)] at c20
        have e : bestN (h 125) set (k + 1) = if set.testBit k then max (bestN (h 125) set k) (h 125 k) else bestN (h 125) set k := rfl
        first
        | (rw [if_pos c20] at e
           rw [← e]
           exact ih (r - 1) (by omega) (k + 1) (by omega))
        | (rw [if_neg c20] at e
           rw [← e]
           exact ih (r - 1) (by omega) (k + 1) (by omega))
      · refine z_il2 eX12_greatest_23 ?_
        refine z_al0 eX12_greatest_24 ?_
        refine z_ga eX12_greatest_25 fX12_44 zs117 (t := 125) rfl ?_
        refine z_il3 eX12_greatest_28 ?_
        refine zr_iN eX12_greatest_29 zs125 (j := k) (by omega) (by omega) ?_
        refine z_max eX12_greatest_30 lX12_294 (by decide) (Nat.le_of_ble_eq_true rfl) ?_
        refine z_is2 eX12_greatest_33 zn0 ?_
        refine z_incN3 eX12_greatest_34 zn0 (by omega) (by omega) ?_
        refine z_goto eX12_greatest_37 rfl ?_
        rw [kb_b1 (by omega) (by omega)] at c20
        have e : bestN (h 125) set (k + 1) = if set.testBit k then max (bestN (h 125) set k) (h 125 k) else bestN (h 125) set k := rfl
        first
        | (rw [if_pos c20] at e
           rw [← e]
           exact ih (r - 1) (by omega) (k + 1) (by omega))
        | (rw [if_neg c20] at e
           rw [← e]
           exact ih (r - 1) (by omega) (k + 1) (by omega))
theorem r_greatest (h : zHp) (D c : Nat → Int) (hD : h 122 = D) (hc : h 125 = c) (hb : dB D) (set : Nat) (hset : set < 256) : zCi mX12_greatest 1 [zA 117, zI set] h (fun v h' => (greatOf c set (nN D) : Int) = v ∧ h = h') := by
  refine z_enter [zA 117, zI set, zU, zU, zU] (by decide +kernel) (Nat.le_of_ble_eq_true rfl) rfl (fun hra hrg => ?_)
  refine z_ki eX12_greatest_0 ?_
  refine z_is2 eX12_greatest_1 zn0 ?_
  refine z_ki eX12_greatest_2 ?_
  refine z_is3 eX12_greatest_3 zn0 ?_
  exact r_greatest_1 h D c hD hc hb set hset _ 0 (Nat.zero_add _)
