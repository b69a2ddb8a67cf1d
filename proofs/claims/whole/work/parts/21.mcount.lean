-- the reference counts (written by wip/tools/specM1.py)
def inOf (D : Nat → Int) : Nat → Int := fun s => D (20 + s)
theorem inOf_b {D : Nat → Int} (hb : dB D) : vB D (inOf D) := fun s hs => by
  have := hb.2.2.2.2.1 s hs
  unfold inOf
  omega
theorem nS_eq {D : Nat → Int} (hb : dB D) : D 1 = (nS D : Int) := by have := hb.2.1; unfold nS; omega
theorem nN_eq {D : Nat → Int} (hb : dB D) : D 0 = (nN D : Int) := by have := hb.1; unfold nN; omega
theorem nS_le {D : Nat → Int} (hb : dB D) : nS D ≤ 20 := by have := hb.2.1; unfold nS; omega
theorem nN_le {D : Nat → Int} (hb : dB D) : nN D ≤ 8 := by have := hb.1; unfold nN; omega
theorem vB_sum {D v : Nat → Int} (hv : vB D v) {s : Nat} (hs : s ≤ nS D) : 0 ≤ sumN v s ∧ sumN v s ≤ 198 * s := by
  have := sumN_b (f := v) (lo := 0) (hi := 198) s (fun k hk => hv k (by omega))
  omega
def fstS (D w : Nat → Int) (name : Int) (set : Nat) : Nat → Int := fun s => if plc D s name set = 0 then w s else 0
theorem fstS_b {D w : Nat → Int} (hv : vB D w) (name : Int) (set : Nat) : vB D (fstS D w name set) := fun s hs => by
  have := hv s hs
  unfold fstS
  split <;> omega
theorem fstOf_b {D w : Nat → Int} (hb : dB D) (hv : vB D w) (name : Int) (set : Nat) : 0 ≤ fstOf D w name set ∧ fstOf D w name set ≤ 3960 := by
  have h1 := vB_sum (fstS_b hv name set) (Nat.le_refl (nS D))
  have h2 := nS_le hb
  unfold fstOf
  unfold fstS at h1
  omega
def morS (D w : Nat → Int) (a b : Nat) : Nat → Int := fun s => if plc D s a (2 ^ a ||| 2 ^ b) = 0 then w s else - w s
theorem morS_b {D w : Nat → Int} (hv : vB D w) (a b s : Nat) (hs : s ≤ nS D) : -198 * s ≤ sumN (morS D w a b) s ∧ sumN (morS D w a b) s ≤ 198 * s := sumN_b s (fun k hk => by
  have := hv k (by omega)
  unfold morS
  split <;> omega)
theorem r_isIn (h : zHp) (x lo hi : Int) : zCi mX12_isIn 0 [zJ x, zJ lo, zJ hi] h (fun v h' => (if lo ≤ x ∧ x ≤ hi then 1 else 0) = v ∧ h = h') := by
  refine z_enter [zJ x, zU, zJ lo, zU, zJ hi, zU] (by decide +kernel) (Nat.le_of_ble_eq_true rfl) rfl (fun hra hrg => ?_)
  refine z_ll0 eX12_isIn_0 ?_
  refine z_ll2 eX12_isIn_1 ?_
  refine z_lcmp eX12_isIn_2 ?_
  refine z_ilt eX12_isIn_3 rfl (fun c3 => ?_) (fun c3 => ?_)
  · rw [zcmp_lt] at c3
    refine z_ki eX12_isIn_17 ?_
    refine ze_z eX12_isIn_18 rfl (by first | exact Or.inl rfl | exact Or.inr rfl) ?_
    refine ⟨?_, rfl⟩
    first | (rw [if_pos (by omega)]; done) | (rw [if_neg (by omega)]; done)
  · rw [zcmp_lt] at c3
    refine z_ll0 eX12_isIn_6 ?_
    refine z_ll4 eX12_isIn_7 ?_
    refine z_lcmp eX12_isIn_9 ?_
    refine z_igt eX12_isIn_10 rfl (fun c10 => ?_) (fun c10 => ?_)
    · rw [zcmp_gt] at c10
      refine z_ki eX12_isIn_17 ?_
      refine ze_z eX12_isIn_18 rfl (by first | exact Or.inl rfl | exact Or.inr rfl) ?_
      refine ⟨?_, rfl⟩
      first | (rw [if_pos (by omega)]; done) | (rw [if_neg (by omega)]; done)
    · rw [zcmp_gt] at c10
      refine z_ki eX12_isIn_13 ?_
      refine z_goto eX12_isIn_14 rfl ?_
      refine ze_z eX12_isIn_18 rfl (by first | exact Or.inl rfl | exact Or.inr rfl) ?_
      refine ⟨?_, rfl⟩
      first | (rw [if_pos (by omega)]; done) | (rw [if_neg (by omega)]; done)
theorem r_isName (h : zHp) (D : Nat → Int) (hD : h 122 = D) (hb : dB D) (x : Int) : zCi mX12_isName 1 [zA 117, zI x] h (fun v h' => (if 0 ≤ x ∧ x < D 0 then 1 else 0) = v ∧ h = h') := by
  refine z_enter [zA 117, zI x] (by decide +kernel) (Nat.le_of_ble_eq_true rfl) rfl (fun hra hrg => ?_)
  subst hD
  obtain ⟨hb0, hb1, -⟩ := hb
  refine z_il1 eX12_isName_0 ?_
  refine z_i2l eX12_isName_1 ?_
  refine z_kj eX12_isName_2 ?_
  refine z_al0 eX12_isName_3 ?_
  refine z_ga eX12_isName_4 fX12_35 zs117 (t := 122) rfl ?_
  refine z_ki eX12_isName_7 ?_
  refine zr_iN eX12_isName_8 zs122 (j := 0) (by omega) (by omega) ?_
  refine z_ki eX12_isName_9 ?_
  refine z_isubN eX12_isName_10 (by omega) (by omega) ?_
  refine z_i2l eX12_isName_11 ?_
  refine zc_si3 eX12_isName_12 lX12_133 tX12_isIn (by decide) (Nat.le_of_ble_eq_true rfl) (r_isIn _ _ _ _) ?_
  rintro _ _ ⟨rfl, rfl⟩ -
  refine ze_z eX12_isName_15 rfl (by first | (split; exact Or.inr rfl; exact Or.inl rfl) | exact Or.inl rfl | exact Or.inr rfl) ?_
  refine ⟨?_, rfl⟩
  by_cases q : 0 ≤ x ∧ x < h 122 0
  · rw [if_pos q, if_pos (by omega)]
  · rw [if_neg q, if_neg (by omega)]
theorem r_isSort (h : zHp) (D : Nat → Int) (hD : h 122 = D) (hb : dB D) (x : Int) : zCi mX12_isSort 1 [zA 117, zI x] h (fun v h' => (if 0 ≤ x ∧ x < D 1 then 1 else 0) = v ∧ h = h') := by
  refine z_enter [zA 117, zI x] (by decide +kernel) (Nat.le_of_ble_eq_true rfl) rfl (fun hra hrg => ?_)
  subst hD
  obtain ⟨hb0, hb1, -⟩ := hb
  refine z_il1 eX12_isSort_0 ?_
  refine z_i2l eX12_isSort_1 ?_
  refine z_kj eX12_isSort_2 ?_
  refine z_al0 eX12_isSort_3 ?_
  refine z_ga eX12_isSort_4 fX12_35 zs117 (t := 122) rfl ?_
  refine z_ki eX12_isSort_7 ?_
  refine zr_iN eX12_isSort_8 zs122 (j := 1) (by omega) (by omega) ?_
  refine z_ki eX12_isSort_9 ?_
  refine z_isubN eX12_isSort_10 (by omega) (by omega) ?_
  refine z_i2l eX12_isSort_11 ?_
  refine zc_si3 eX12_isSort_12 lX12_133 tX12_isIn (by decide) (Nat.le_of_ble_eq_true rfl) (r_isIn _ _ _ _) ?_
  rintro _ _ ⟨rfl, rfl⟩ -
  refine ze_z eX12_isSort_15 rfl (by first | (split; exact Or.inr rfl; exact Or.inl rfl) | exact Or.inl rfl | exact Or.inr rfl) ?_
  refine ⟨?_, rfl⟩
  by_cases q : 0 ≤ x ∧ x < h 122 1
  · rw [if_pos q, if_pos (by omega)]
  · rw [if_neg q, if_neg (by omega)]
theorem r_allIn_l (h : zHp) (D : Nat → Int) (hD : h 122 = D) (hb : dB D) : ∀ (r s : Nat), s + r = nS D → zRW mX12_allIn 0 (0, 0) 4 [zA 117, zI (sumN (inOf D) s), zI s] [] 143 h (zqi (fun v h' => sumN (inOf D) (nS D) = v ∧ h = h')) := by
  subst hD
  have hS := nS_eq hb
  have hS20 := nS_le hb
  intro r
  induction r using Nat.strongRecOn with
  | ind r ih =>
    intro s hs
    refine z_il2 eX12_allIn_4 ?_
    refine z_al0 eX12_allIn_5 ?_
    refine z_ga eX12_allIn_6 fX12_35 zs117 (t := 122) rfl ?_
    refine z_ki eX12_allIn_9 ?_
    refine zr_iN eX12_allIn_10 zs122 (j := 1) (by omega) (by omega) ?_
    refine z_cge eX12_allIn_11 rfl (fun c11 => ?_) (fun c11 => ?_)
    · refine z_il1 eX12_allIn_32 ?_
      refine ze_i eX12_allIn_33 rfl ?_
      have e : s = nS (h 122) := by omega
      subst e
      exact ⟨rfl, rfl⟩
    · have hv := inOf_b hb s (by omega)
      have hsum := vB_sum (inOf_b hb) (s := s) (by omega)
      unfold inOf at hv
      refine z_il1 eX12_allIn_14 ?_
      refine z_al0 eX12_allIn_15 ?_
      refine z_ga eX12_allIn_16 fX12_35 zs117 (t := 122) rfl ?_
      refine z_ki eX12_allIn_19 ?_
      refine z_il2 eX12_allIn_21 ?_
      refine z_iaddN eX12_allIn_22 (by omega) (by omega) ?_
      refine zr_iN eX12_allIn_23 zs122 (j := 20 + s) (by omega) (by omega) ?_
      refine z_iaddN eX12_allIn_24 (by omega) (by omega) ?_
      refine z_is1 eX12_allIn_25 zn2 ?_
      refine z_incN2 eX12_allIn_26 zn0 (by omega) (by omega) ?_
      refine z_goto eX12_allIn_29 rfl ?_
      exact ih (r - 1) (by omega) (s + 1) (by omega)
theorem r_allIn (h : zHp) (D : Nat → Int) (hD : h 122 = D) (hb : dB D) : zCi mX12_allIn 0 [zA 117] h (fun v h' => sumN (inOf D) (nS D) = v ∧ h = h') := by
  refine z_enter [zA 117, zU, zU] (by decide +kernel) (Nat.le_of_ble_eq_true rfl) rfl (fun hra hrg => ?_)
  refine z_ki eX12_allIn_0 ?_
  refine z_is1 eX12_allIn_1 zn2 ?_
  refine z_ki eX12_allIn_2 ?_
  refine z_is2 eX12_allIn_3 zn0 ?_
  exact r_allIn_l h D hD hb _ 0 (Nat.zero_add _)
theorem r_placeIn_l (h : zHp) (D : Nat → Int) (hD : h 122 = D) (hb : dB D) (s : Nat) (hs : s < nS D) (name : Int) (set : Nat) (hset : set < 2147483648) : ∀ (r k : Nat) (p : Int), k + r = nN D → 0 ≤ p → p ≤ k → zRW mX12_placeIn 0 (0, 0) 6 [zA 117, zI s, zI name, zI set, zI p, zI k, zU] [] 143 h (zqi (fun v h' => p + plcF D s name set r k = v ∧ h = h')) := by
  subst hD
  have hN := nN_eq hb
  have hN8 := nN_le hb
  have hS20 := nS_le hb
  intro r
  induction r using Nat.strongRecOn with
  | ind r ih =>
    intro k p hk hp0 hp1
    refine z_il5 eX12_placeIn_6 ?_
    refine z_al0 eX12_placeIn_8 ?_
    refine z_ga eX12_placeIn_9 fX12_35 zs117 (t := 122) rfl ?_
    refine z_ki eX12_placeIn_12 ?_
    refine zr_iN eX12_placeIn_13 zs122 (j := 0) (by omega) (by omega) ?_
    refine z_cge eX12_placeIn_14 rfl (fun c14 => ?_) (fun c14 => ?_)
    · refine z_il4 eX12_placeIn_60 ?_
      refine ze_i eX12_placeIn_62 rfl ?_
      have e : r = 0 := by omega
      subst e
      exact ⟨by rw [plcF]; omega, rfl⟩
    · have ho := hb.2.2.2.1 s k hs (by omega)
      obtain ⟨q, rfl⟩ : ∃ q, r = q + 1 := ⟨r - 1, by omega⟩
      refine z_al0 eX12_placeIn_17 ?_
      refine z_ga eX12_placeIn_18 fX12_35 zs117 (t := 122) rfl ?_
      refine z_ki eX12_placeIn_21 ?_
      refine z_ki eX12_placeIn_23 ?_
      refine z_il1 eX12_placeIn_25 ?_
      refine z_imulN eX12_placeIn_26 (by omega) (by omega) ?_
      refine z_iaddN eX12_placeIn_27 (by omega) (by omega) ?_
      refine z_il5 eX12_placeIn_28 ?_
      refine z_iaddN eX12_placeIn_30 (by omega) (by omega) ?_
      refine zr_iN eX12_placeIn_31 zs122 (j := 80 + (8 * s) + k) (by omega) (by omega) ?_
      refine z_is6 eX12_placeIn_32 zn0 ?_
      refine z_il6 eX12_placeIn_34 ?_
      refine z_il2 eX12_placeIn_36 ?_
      refine z_cne eX12_placeIn_37 rfl (fun c37 => ?_) (fun c37 => ?_)
      · refine z_il4 eX12_placeIn_43 ?_
        refine z_il3 eX12_placeIn_45 ?_
        refine z_il6 eX12_placeIn_46 ?_
        refine z_ishr eX12_placeIn_48 ?_
        refine z_ki eX12_placeIn_49 ?_
        refine z_iand eX12_placeIn_50 ?_
        rw [kb_bv hset (by omega) (by omega)]
        have hbv := bv_01 set (h 122 (80 + 8 * s + k)).toNat
        refine z_iaddN eX12_placeIn_51 (by omega) (by omega) ?_
        refine z_is4 eX12_placeIn_52 zn0 ?_
        refine z_incN5 eX12_placeIn_54 zn0 (by omega) (by omega) ?_
        refine z_goto eX12_placeIn_57 rfl ?_
        refine z_fg6 ?_
        have q1 := ih q (by omega) (k + 1) (p + bv set (h 122 (80 + 8 * s + k)).toNat) (by omega) (by omega) (by omega)
        rw [show p + plcF (h 122) s name set (q + 1) k = p + bv set (h 122 (80 + 8 * s + k)).toNat + plcF (h 122) s name set q (k + 1) by rw [plcF, if_neg c37]; omega]
        exact q1
      · refine z_il4 eX12_placeIn_40 ?_
        refine ze_i eX12_placeIn_42 rfl ?_
        exact ⟨by rw [plcF, if_pos c37]; omega, rfl⟩
theorem r_placeIn (h : zHp) (D : Nat → Int) (hD : h 122 = D) (hb : dB D) (s : Nat) (hs : s < nS D) (name : Int) (set : Nat) (hset : set < 2147483648) : zCi mX12_placeIn 0 [zA 117, zI s, zI name, zI set] h (fun v h' => plc D s name set = v ∧ h = h') := by
  refine z_enter [zA 117, zI s, zI name, zI set, zU, zU, zU] (by decide +kernel) (Nat.le_of_ble_eq_true rfl) rfl (fun hra hrg => ?_)
  refine z_ki eX12_placeIn_0 ?_
  refine z_is4 eX12_placeIn_1 zn0 ?_
  refine z_ki eX12_placeIn_3 ?_
  refine z_is5 eX12_placeIn_4 zn0 ?_
  have q := r_placeIn_l h D hD hb s hs name set hset (nN D) 0 0 (Nat.zero_add _) (Int.le_refl _) (Int.le_refl _)
  rw [Int.zero_add] at q
  exact q
theorem r_firstsOf_l (h : zHp) (D w : Nat → Int) (hD : h 122 = D) (hw : h 124 = w) (hb : dB D) (hvb : vB D w) (name : Int) (set : Nat) (hset : set < 2147483648) : ∀ (r s : Nat), s + r = nS D → zRW mX12_firstsOf 1 (0, 0) 5 [zA 117, zI name, zI set, zI (sumN (fstS D w name set) s), zI s] [] 143 h (zqi (fun v h' => fstOf D w name set = v ∧ h = h')) := by
  subst hD
  subst hw
  have hS := nS_eq hb
  have hS20 := nS_le hb
  intro r
  induction r using Nat.strongRecOn with
  | ind r ih =>
    intro s hs
    refine z_il4 eX12_firstsOf_5 ?_
    refine z_al0 eX12_firstsOf_7 ?_
    refine z_ga eX12_firstsOf_8 fX12_35 zs117 (t := 122) rfl ?_
    refine z_ki eX12_firstsOf_11 ?_
    refine zr_iN eX12_firstsOf_12 zs122 (j := 1) (by omega) (by omega) ?_
    refine z_cge eX12_firstsOf_13 rfl (fun c13 => ?_) (fun c13 => ?_)
    · refine z_il3 eX12_firstsOf_47 ?_
      refine ze_i eX12_firstsOf_48 rfl ?_
      have e : s = nS (h 122) := by omega
      subst e
      exact ⟨rfl, rfl⟩
    · have hv := hvb s (by omega)
      have hsum := vB_sum (fstS_b hvb name set) (s := s) (by omega)
      refine z_il3 eX12_firstsOf_16 ?_
      refine z_al0 eX12_firstsOf_17 ?_
      refine z_il4 eX12_firstsOf_18 ?_
      refine z_il1 eX12_firstsOf_20 ?_
      refine z_il2 eX12_firstsOf_21 ?_
      refine zc_vi3 eX12_firstsOf_22 lX12_290 tX12_placeIn zs117 (by decide) (Nat.le_of_ble_eq_true rfl) (r_placeIn _ _ rfl hb s (by omega) name set hset) ?_
      rintro _ _ ⟨rfl, rfl⟩ -
      refine z_ine eX12_firstsOf_25 rfl (fun c25 => ?_) (fun c25 => ?_)
      · refine z_ki eX12_firstsOf_38 ?_
        refine z_iaddN eX12_firstsOf_39 (by omega) (by omega) ?_
        refine z_is3 eX12_firstsOf_40 zn0 ?_
        refine z_incN4 eX12_firstsOf_41 zn0 (by omega) (by omega) ?_
        refine z_goto eX12_firstsOf_44 rfl ?_
        have e : sumN (fstS (h 122) (h 124) name set) (s + 1) = sumN (fstS (h 122) (h 124) name set) s + fstS (h 122) (h 124) name set s := rfl
        first | rw [show fstS (h 122) (h 124) name set s = h 124 s from if_pos c25] at e | rw [show fstS (h 122) (h 124) name set s = 0 from if_neg c25] at e
        rw [← e]
        exact ih (r - 1) (by omega) (s + 1) (by omega)
      · refine z_al0 eX12_firstsOf_28 ?_
        refine z_ga eX12_firstsOf_29 fX12_41 zs117 (t := 124) rfl ?_
        refine z_il4 eX12_firstsOf_32 ?_
        refine zr_iN eX12_firstsOf_34 zs124 (j := s) (by omega) (by omega) ?_
        refine z_goto eX12_firstsOf_35 rfl ?_
        refine z_iaddN eX12_firstsOf_39 (by omega) (by omega) ?_
        refine z_is3 eX12_firstsOf_40 zn0 ?_
        refine z_incN4 eX12_firstsOf_41 zn0 (by omega) (by omega) ?_
        refine z_goto eX12_firstsOf_44 rfl ?_
        have e : sumN (fstS (h 122) (h 124) name set) (s + 1) = sumN (fstS (h 122) (h 124) name set) s + fstS (h 122) (h 124) name set s := rfl
        first | rw [show fstS (h 122) (h 124) name set s = h 124 s from if_pos c25] at e | rw [show fstS (h 122) (h 124) name set s = 0 from if_neg c25] at e
        rw [← e]
        exact ih (r - 1) (by omega) (s + 1) (by omega)
theorem r_firstsOf (h : zHp) (D w : Nat → Int) (hD : h 122 = D) (hw : h 124 = w) (hb : dB D) (hvb : vB D w) (name : Int) (set : Nat) (hset : set < 2147483648) : zCi mX12_firstsOf 1 [zA 117, zI name, zI set] h (fun v h' => fstOf D w name set = v ∧ h = h') := by
  refine z_enter [zA 117, zI name, zI set, zU, zU] (by decide +kernel) (Nat.le_of_ble_eq_true rfl) rfl (fun hra hrg => ?_)
  refine z_ki eX12_firstsOf_0 ?_
  refine z_is3 eX12_firstsOf_1 zn0 ?_
  refine z_ki eX12_firstsOf_2 ?_
  refine z_is4 eX12_firstsOf_3 zn0 ?_
  exact r_firstsOf_l h D w hD hw hb hvb name set hset _ 0 (Nat.zero_add _)
