-- ways, powers, fractions (written by wip/tools/specD1.py)
def chF (n : Nat) : Nat → Nat
  | 0 => 1
  | i + 1 => chF n i * (n - i) / (i + 1)
def waF (n k : Nat) : Nat → Nat
  | 0 => 1
  | j + 1 => waF n k j * (n - k + (j + 1)) / (j + 1)
theorem ch_all : (List.range 100).all (fun n => (List.range 13).all (fun k => decide (chF n k < 2000000000000000) && (!(decide (k ≤ n)) || (decide (0 < chF n k) && decide (waF n k k = chF n k) && (List.range 13).all (fun j => !(decide (j ≤ k)) || decide (waF n k j < 2000000000000000)))))) = true := by decide +kernel
theorem ch_at {n k : Nat} (hn : n < 100) (hk : k < 13) : chF n k < 2000000000000000 ∧ (k ≤ n → 0 < chF n k ∧ waF n k k = chF n k ∧ ∀ j, j ≤ k → waF n k j < 2000000000000000) := by
  have h := List.all_eq_true.mp (List.all_eq_true.mp ch_all n (List.mem_range.mpr hn)) k (List.mem_range.mpr hk)
  simp only [Bool.and_eq_true, Bool.or_eq_true, Bool.not_eq_true', decide_eq_true_eq, decide_eq_false_iff_not] at h
  refine ⟨h.1, fun q => ?_⟩
  rcases h.2 with z | ⟨⟨z1, z2⟩, z3⟩
  · exact absurd q z
  · refine ⟨z1, z2, fun j hj => ?_⟩
    have := List.all_eq_true.mp z3 j (List.mem_range.mpr (by omega))
    simp only [Bool.or_eq_true, Bool.not_eq_true', decide_eq_true_eq, decide_eq_false_iff_not] at this
    rcases this with y | y
    · exact absurd hj y
    · exact y
theorem zl_mulN {a b : Nat} (h : a * b < 9223372036854775808) : zl ((a : Int) * (b : Int)) = ((a * b : Nat) : Int) := by
  rw [← Int.natCast_mul]
  exact zl_id ⟨by omega, by omega⟩
theorem zl_addN {a b : Nat} (h : a + b < 9223372036854775808) : zl ((a : Int) + (b : Int)) = ((a + b : Nat) : Int) := by
  rw [← Int.natCast_add]
  exact zl_id ⟨by omega, by omega⟩
theorem zldiv_N {a b : Nat} (ha : a < 9223372036854775808) (hb : 0 < b) (hb2 : b < 9223372036854775808) : zldiv (a : Int) (b : Int) = ((a / b : Nat) : Int) := by
  rw [zldiv_e ⟨by omega, by omega⟩ (by omega) (by omega) (by omega), Int.natCast_ediv]
theorem zlrem_N {a b : Nat} (ha : a < 9223372036854775808) (hb : 0 < b) (hb2 : b < 9223372036854775808) : zlrem (a : Int) (b : Int) = ((a % b : Nat) : Int) := by
  rw [zlrem_e ⟨by omega, by omega⟩ (by omega) (by omega) (by omega), Int.natCast_emod]
theorem pw_b {x k : Nat} (hx : x ≤ 16) (hk : k ≤ 12) : x ^ k ≤ 281474976710656 := Nat.le_trans (Nat.pow_le_pow_left hx k) (Nat.le_trans (Nat.pow_le_pow_right (by omega) hk) (by decide))
theorem gcd_step (a b : Nat) : Nat.gcd b (a % b) = Nat.gcd a b := by rw [Nat.gcd_comm b (a % b), ← Nat.gcd_rec, Nat.gcd_comm]
theorem mod2 {a b : Nat} (hb : 0 < b) (h : b ≤ a) : 2 * (a % b) ≤ a := by
  have h1 := Nat.mod_lt a hb
  have h2 := Nat.div_add_mod a b
  have h3 : 1 ≤ a / b := (Nat.one_le_div_iff hb).mpr h
  have h4 : b * 1 ≤ b * (a / b) := Nat.mul_le_mul_left b h3
  omega
theorem x_choose_l (h : zHp) (n k : Nat) (hn : n < 100) (hk : k < 13) (hkn : k ≤ n) : ∀ (r i : Nat), i + r = k → zRW mX1_choose 0 (0, 0) 5 [zI n, zI k, zJ (chF n i : Nat), zU, zI i] [] 143 h (zqj (fun v h' => ((chF n k : Nat) : Int) = v ∧ h = h')) := by
  intro r
  induction r using Nat.strongRecOn with
  | ind r ih =>
    intro i hi
    have hc := (ch_at hn (show i < 13 by omega)).1
    refine z_il4 eX1_choose_5 ?_
    refine z_il1 eX1_choose_7 ?_
    refine z_cge eX1_choose_8 rfl (fun c8 => ?_) (fun c8 => ?_)
    · refine z_ll2 eX1_choose_31 ?_
      refine ze_j eX1_choose_32 rfl ?_
      have e : i = k := by omega
      subst e
      exact ⟨rfl, rfl⟩
    · refine z_ll2 eX1_choose_11 ?_
      refine z_il0 eX1_choose_12 ?_
      refine z_il4 eX1_choose_13 ?_
      refine z_isubN eX1_choose_15 (by omega) (by omega) ?_
      refine z_i2l eX1_choose_16 ?_
      rw [show (n : Int) - (i : Int) = ((n - i : Nat) : Int) by omega]
      have hm : chF n i * (n - i) ≤ 2000000000000000 * 99 := Nat.mul_le_mul (by omega) (by omega)
      refine z_lmul eX1_choose_17 ?_
      rw [zl_mulN (by omega)]
      refine z_il4 eX1_choose_18 ?_
      refine z_ki eX1_choose_20 ?_
      refine z_iaddN eX1_choose_21 (by omega) (by omega) ?_
      refine z_i2l eX1_choose_22 ?_
      rw [show (i : Int) + 1 = ((i + 1 : Nat) : Int) by omega]
      refine z_ldiv eX1_choose_23 (by omega) ?_
      rw [zldiv_N (by omega) (by omega) (by omega)]
      refine z_ls2 eX1_choose_24 zn0 ?_
      refine z_incN4 eX1_choose_25 zn9 (by omega) (by omega) ?_
      refine z_goto eX1_choose_28 rfl ?_
      exact ih (r - 1) (by omega) (i + 1) (by omega)
theorem x_choose (h : zHp) (n k : Nat) (hn : n < 100) (hk : k < 13) (hkn : k ≤ n) : zCj mX1_choose 0 [zI n, zI k] h (fun v h' => ((chF n k : Nat) : Int) = v ∧ h = h') := by
  refine z_enter [zI n, zI k, zU, zU, zU] (by decide +kernel) (Nat.le_of_ble_eq_true rfl) rfl (fun hra hrg => ?_)
  refine z_kj eX1_choose_0 ?_
  refine z_ls2 eX1_choose_1 zn0 ?_
  refine z_ki eX1_choose_2 ?_
  refine z_is4 eX1_choose_3 zn9 ?_
  exact x_choose_l h n k hn hk hkn k 0 (Nat.zero_add _)
theorem r_ways_l (h : zHp) (n k : Nat) (hn : n < 100) (hk : k < 13) (hkn : k ≤ n) : ∀ (r j : Nat), j + r = k → zRW mX12_ways 0 (0, 0) 5 [zI n, zI k, zJ (waF n k j : Nat), zU, zI ((j : Int) + 1)] [] 143 h (zqj (fun v h' => ((chF n k : Nat) : Int) = v ∧ h = h')) := by
  have hall := (ch_at hn hk).2 hkn
  intro r
  induction r using Nat.strongRecOn with
  | ind r ih =>
    intro j hj
    have hc := hall.2.2 j (by omega)
    refine z_il4 eX12_ways_5 ?_
    refine z_il1 eX12_ways_7 ?_
    refine z_cgt eX12_ways_8 rfl (fun c8 => ?_) (fun c8 => ?_)
    · refine z_ll2 eX12_ways_31 ?_
      refine ze_j eX12_ways_32 rfl ?_
      have e : j = k := by omega
      subst e
      exact ⟨by rw [hall.2.1], rfl⟩
    · refine z_ll2 eX12_ways_11 ?_
      refine z_il0 eX12_ways_12 ?_
      refine z_il1 eX12_ways_13 ?_
      refine z_isubN eX12_ways_14 (by omega) (by omega) ?_
      refine z_il4 eX12_ways_15 ?_
      refine z_iaddN eX12_ways_17 (by omega) (by omega) ?_
      refine z_i2l eX12_ways_18 ?_
      rw [show (n : Int) - (k : Int) + ((j : Int) + 1) = ((n - k + (j + 1) : Nat) : Int) by omega]
      have hm : waF n k j * (n - k + (j + 1)) ≤ 2000000000000000 * 99 := Nat.mul_le_mul (by omega) (by omega)
      refine z_lmul eX12_ways_19 ?_
      rw [zl_mulN (by omega)]
      refine z_il4 eX12_ways_20 ?_
      refine z_i2l eX12_ways_22 ?_
      rw [show (j : Int) + 1 = ((j + 1 : Nat) : Int) by omega]
      refine z_ldiv eX12_ways_23 (by omega) ?_
      rw [zldiv_N (by omega) (by omega) (by omega)]
      refine z_ls2 eX12_ways_24 zn0 ?_
      refine z_incN4 eX12_ways_25 zn9 (by omega) (by omega) ?_
      refine z_goto eX12_ways_28 rfl ?_
      exact ih (r - 1) (by omega) (j + 1) (by omega)
theorem r_ways (h : zHp) (n k : Nat) (hn : n < 100) (hk : k < 13) (hkn : k ≤ n) : zCj mX12_ways 0 [zI n, zI k] h (fun v h' => ((chF n k : Nat) : Int) = v ∧ h = h') := by
  refine z_enter [zI n, zI k, zU, zU, zU] (by decide +kernel) (Nat.le_of_ble_eq_true rfl) rfl (fun hra hrg => ?_)
  refine z_kj eX12_ways_0 ?_
  refine z_ls2 eX12_ways_1 zn0 ?_
  refine z_ki eX12_ways_2 ?_
  refine z_is4 eX12_ways_3 zn9 ?_
  exact r_ways_l h n k hn hk hkn k 0 (Nat.zero_add _)
theorem x_power_l (h : zHp) (x k : Nat) (hx : x ≤ 16) (hk : k ≤ 12) : ∀ (r i : Nat), i + r = k → zRW mX1_power 0 (0, 0) 5 [zJ x, zU, zI k, zJ (x ^ i : Nat), zU, zI i] [] 143 h (zqj (fun v h' => ((x ^ k : Nat) : Int) = v ∧ h = h')) := by
  intro r
  induction r using Nat.strongRecOn with
  | ind r ih =>
    intro i hi
    have hc := pw_b hx (show i ≤ 12 by omega)
    have hm : x ^ i * x ≤ 281474976710656 * 16 := Nat.mul_le_mul hc hx
    refine z_il5 eX1_power_5 ?_
    refine z_il2 eX1_power_7 ?_
    refine z_cge eX1_power_8 rfl (fun c8 => ?_) (fun c8 => ?_)
    · refine z_ll3 eX1_power_21 ?_
      refine ze_j eX1_power_22 rfl ?_
      have e : i = k := by omega
      subst e
      exact ⟨rfl, rfl⟩
    · refine z_ll3 eX1_power_11 ?_
      refine z_ll0 eX1_power_12 ?_
      refine z_lmul eX1_power_13 ?_
      rw [zl_mulN (by omega), ← Nat.pow_succ]
      refine z_ls3 eX1_power_14 zn0 ?_
      refine z_incN5 eX1_power_15 zn9 (by omega) (by omega) ?_
      refine z_goto eX1_power_18 rfl ?_
      exact ih (r - 1) (by omega) (i + 1) (by omega)
theorem x_power (h : zHp) (x k : Nat) (hx : x ≤ 16) (hk : k ≤ 12) : zCj mX1_power 0 [zJ x, zI k] h (fun v h' => ((x ^ k : Nat) : Int) = v ∧ h = h') := by
  refine z_enter [zJ x, zU, zI k, zU, zU, zU] (by decide +kernel) (Nat.le_of_ble_eq_true rfl) rfl (fun hra hrg => ?_)
  refine z_kj eX1_power_0 ?_
  refine z_ls3 eX1_power_1 zn0 ?_
  refine z_ki eX1_power_2 ?_
  refine z_is5 eX1_power_3 zn9 ?_
  exact x_power_l h x k hx hk k 0 (Nat.zero_add _)
theorem r_power_l (h : zHp) (x k : Nat) (hx : x ≤ 16) (hk : k ≤ 12) : ∀ (r i : Nat), i + r = k → zRW mX12_power 0 (0, 0) 5 [zJ x, zU, zI k, zJ (x ^ i : Nat), zU, zI i] [] 143 h (zqj (fun v h' => ((x ^ k : Nat) : Int) = v ∧ h = h')) := by
  intro r
  induction r using Nat.strongRecOn with
  | ind r ih =>
    intro i hi
    have hc := pw_b hx (show i ≤ 12 by omega)
    have hm : x ^ i * x ≤ 281474976710656 * 16 := Nat.mul_le_mul hc hx
    refine z_il5 eX12_power_5 ?_
    refine z_il2 eX12_power_7 ?_
    refine z_cge eX12_power_8 rfl (fun c8 => ?_) (fun c8 => ?_)
    · refine z_ll3 eX12_power_21 ?_
      refine ze_j eX12_power_22 rfl ?_
      have e : i = k := by omega
      subst e
      exact ⟨rfl, rfl⟩
    · refine z_ll3 eX12_power_11 ?_
      refine z_ll0 eX12_power_12 ?_
      refine z_lmul eX12_power_13 ?_
      rw [zl_mulN (by omega), ← Nat.pow_succ]
      refine z_ls3 eX12_power_14 zn0 ?_
      refine z_incN5 eX12_power_15 zn9 (by omega) (by omega) ?_
      refine z_goto eX12_power_18 rfl ?_
      exact ih (r - 1) (by omega) (i + 1) (by omega)
theorem r_power (h : zHp) (x k : Nat) (hx : x ≤ 16) (hk : k ≤ 12) : zCj mX12_power 0 [zJ x, zI k] h (fun v h' => ((x ^ k : Nat) : Int) = v ∧ h = h') := by
  refine z_enter [zJ x, zU, zI k, zU, zU, zU] (by decide +kernel) (Nat.le_of_ble_eq_true rfl) rfl (fun hra hrg => ?_)
  refine z_kj eX12_power_0 ?_
  refine z_ls3 eX12_power_1 zn0 ?_
  refine z_ki eX12_power_2 ?_
  refine z_is5 eX12_power_3 zn9 ?_
  exact r_power_l h x k hx hk k 0 (Nat.zero_add _)
theorem x_tell_l (h : zHp) (o u : Nat) (ho : o ≤ u) (hu : 0 < u) (hu2 : u < 9223372036854775808) : ∀ (r i a b : Nat), i + r = 200 → Nat.gcd a b = Nat.gcd u o → b ≤ a → 0 < a → a ≤ u → a * b * 2 ^ i ≤ u * u → zRW mX1_tell 0 (0, 0) 9 [zA 63, zJ o, zU, zJ u, zU, zJ a, zU, zJ b, zU, zI i, zU, zU] [] 143 h (zqv (fun h' => zup (zup h 63 5 ((o / Nat.gcd u o : Nat) : Int)) 63 6 ((u / Nat.gcd u o : Nat) : Int) = h')) := by
  intro r
  induction r using Nat.strongRecOn with
  | ind r ih =>
    intro i a b hi hg hba ha hau hm
    have hgb : b = 0 → a = Nat.gcd u o := fun e => by subst e; rw [← hg, Nat.gcd_zero_right]
    refine z_il9 eX1_tell_9 ?_
    refine z_ki eX1_tell_11 ?_
    refine z_cge eX1_tell_14 rfl (fun c14 => ?_) (fun c14 => ?_)
    · refine z_ll5 eX1_tell_45 ?_
      refine z_kj eX1_tell_47 ?_
      refine z_lcmp eX1_tell_48 ?_
      refine z_ile eX1_tell_49 rfl (fun c49 => ?_) (fun c49 => ?_)
      · rw [zcmp_le] at c49
        exfalso; omega
      · rw [zcmp_le] at c49
        refine z_al0 eX1_tell_52 ?_
        refine z_ll1 eX1_tell_53 ?_
        refine z_ll5 eX1_tell_54 ?_
        refine z_ldiv eX1_tell_56 (by omega) ?_
        rw [zldiv_N (by omega) ha (by omega)]
        refine z_pj eX1_tell_57 pX1_15 zs63 ?_
        refine z_al0 eX1_tell_60 ?_
        refine z_ll3 eX1_tell_61 ?_
        refine z_ll5 eX1_tell_62 ?_
        refine z_ldiv eX1_tell_64 (by omega) ?_
        rw [zldiv_N (by omega) ha (by omega)]
        refine z_pj eX1_tell_65 pX1_19 zs63 ?_
        refine ze_v eX1_tell_68 rfl ?_
        have e : i = 200 := by omega
        subst e
        have hb0 : b = 0 := by
          rcases Nat.eq_zero_or_pos b with z | z
          · exact z
          · exfalso
            have h1 : 1 * 1 ≤ a * b := Nat.mul_le_mul ha z
            have h2 : 1 * 2 ^ 200 ≤ a * b * 2 ^ 200 := Nat.mul_le_mul_right _ h1
            have h3 : u * u ≤ 9223372036854775808 * 9223372036854775808 := Nat.mul_le_mul (by omega) (by omega)
            omega
        have e2 := hgb hb0
        rw [← e2]
    · refine z_ll7 eX1_tell_17 ?_
      refine z_kj eX1_tell_19 ?_
      refine z_lcmp eX1_tell_20 ?_
      refine z_ieq eX1_tell_21 rfl (fun c21 => ?_) (fun c21 => ?_)
      · rw [zcmp_eq] at c21
        refine z_ll5 eX1_tell_45 ?_
        refine z_kj eX1_tell_47 ?_
        refine z_lcmp eX1_tell_48 ?_
        refine z_ile eX1_tell_49 rfl (fun c49 => ?_) (fun c49 => ?_)
        · rw [zcmp_le] at c49
          exfalso; omega
        · rw [zcmp_le] at c49
          refine z_al0 eX1_tell_52 ?_
          refine z_ll1 eX1_tell_53 ?_
          refine z_ll5 eX1_tell_54 ?_
          refine z_ldiv eX1_tell_56 (by omega) ?_
          rw [zldiv_N (by omega) ha (by omega)]
          refine z_pj eX1_tell_57 pX1_15 zs63 ?_
          refine z_al0 eX1_tell_60 ?_
          refine z_ll3 eX1_tell_61 ?_
          refine z_ll5 eX1_tell_62 ?_
          refine z_ldiv eX1_tell_64 (by omega) ?_
          rw [zldiv_N (by omega) ha (by omega)]
          refine z_pj eX1_tell_65 pX1_19 zs63 ?_
          refine ze_v eX1_tell_68 rfl ?_
          have e := hgb (by omega)
          rw [← e]
      · rw [zcmp_eq] at c21
        refine z_ll5 eX1_tell_24 ?_
        refine z_ll7 eX1_tell_26 ?_
        refine z_lrem eX1_tell_28 (by omega) ?_
        rw [zlrem_N (by omega) (by omega) (by omega)]
        refine z_ls10 eX1_tell_29 zn0 ?_
        refine z_ll7 eX1_tell_31 ?_
        refine z_ls5 eX1_tell_33 zn9 ?_
        refine z_ll10 eX1_tell_35 ?_
        refine z_ls7 eX1_tell_37 zn9 ?_
        refine z_incN9 eX1_tell_39 zn9 (by omega) (by omega) ?_
        refine z_goto eX1_tell_42 rfl ?_
        refine z_fg10 ?_
        have hb0 : 0 < b := by omega
        have hlt := Nat.mod_lt a hb0
        have h2 := mod2 hb0 hba
        refine ih (r - 1) (by omega) (i + 1) b (a % b) (by omega) ((gcd_step a b).trans hg) (by omega) hb0 (by omega) ?_
        have e1 : b * (a % b) * 2 ^ (i + 1) = b * (2 * (a % b)) * 2 ^ i := by rw [Nat.pow_succ, Nat.mul_assoc, Nat.mul_assoc, Nat.mul_assoc, Nat.mul_comm (2 ^ i) 2, ← Nat.mul_assoc (a % b) 2, Nat.mul_comm (a % b) 2, Nat.mul_assoc]
        rw [e1]
        exact Nat.le_trans (Nat.mul_le_mul_right _ (Nat.le_trans (Nat.mul_le_mul_left b h2) (by rw [Nat.mul_comm]; exact Nat.le_refl _))) hm
theorem x_tell (h : zHp) (o u : Nat) (ho : o ≤ u) (hu : 0 < u) (hu2 : u < 9223372036854775808) : zCv mX1_tell 0 [zA 63, zJ o, zJ u] h (fun h' => zup (zup h 63 5 ((o / Nat.gcd u o : Nat) : Int)) 63 6 ((u / Nat.gcd u o : Nat) : Int) = h') := by
  refine z_enter [zA 63, zJ o, zU, zJ u, zU, zU, zU, zU, zU, zU, zU, zU] (by decide +kernel) (Nat.le_of_ble_eq_true rfl) rfl (fun hra hrg => ?_)
  refine z_ll3 eX1_tell_0 ?_
  refine z_ls5 eX1_tell_1 zn9 ?_
  refine z_ll1 eX1_tell_3 ?_
  refine z_ls7 eX1_tell_4 zn9 ?_
  refine z_ki eX1_tell_6 ?_
  refine z_is9 eX1_tell_7 zn9 ?_
  exact x_tell_l h o u ho hu hu2 200 0 u o rfl rfl ho hu (Nat.le_refl _) (by rw [Nat.pow_zero, Nat.mul_one]; exact Nat.mul_le_mul_left u ho)
theorem r_frac_l (h : zHp) (o u : Nat) (ho : o ≤ u) (hu : 0 < u) (hu2 : u < 9223372036854775808) : ∀ (y x : Nat), Nat.gcd x y = Nat.gcd u o → x ≤ u → y ≤ u → 0 < Nat.gcd x y → zRW mX12_fraction 1 (0, 0) 9 [zA 117, zJ o, zU, zJ u, zU, zJ x, zU, zJ y, zU, zU, zU] [] 143 h (zqv (fun h' => zup (zup h 117 2 ((o / Nat.gcd u o : Nat) : Int)) 117 3 ((u / Nat.gcd u o : Nat) : Int) = h')) := by
  intro y
  induction y using Nat.strongRecOn with
  | ind y ih =>
    intro x hg hx hy hp
    refine z_ll7 eX12_fraction_9 ?_
    refine z_kj eX12_fraction_11 ?_
    refine z_lcmp eX12_fraction_12 ?_
    refine z_ieq eX12_fraction_13 rfl (fun c13 => ?_) (fun c13 => ?_)
    · rw [zcmp_eq] at c13
      have e : y = 0 := by omega
      subst e
      rw [Nat.gcd_zero_right] at hg hp
      subst hg
      refine z_al0 eX12_fraction_34 ?_
      refine z_ll1 eX12_fraction_35 ?_
      refine z_ll5 eX12_fraction_36 ?_
      refine z_ldiv eX12_fraction_38 (by omega) ?_
      rw [zldiv_N (by omega) hp (by omega)]
      refine z_pj eX12_fraction_39 pX12_104 zs117 ?_
      refine z_al0 eX12_fraction_42 ?_
      refine z_ll3 eX12_fraction_43 ?_
      refine z_ll5 eX12_fraction_44 ?_
      refine z_ldiv eX12_fraction_46 (by omega) ?_
      rw [zldiv_N (by omega) hp (by omega)]
      refine z_pj eX12_fraction_47 pX12_7 zs117 ?_
      refine ze_v eX12_fraction_50 rfl ?_
      rfl
    · rw [zcmp_eq] at c13
      refine z_ll5 eX12_fraction_16 ?_
      refine z_ll7 eX12_fraction_18 ?_
      refine z_lrem eX12_fraction_20 (by omega) ?_
      rw [zlrem_N (by omega) (by omega) (by omega)]
      refine z_ls9 eX12_fraction_21 zn9 ?_
      refine z_ll7 eX12_fraction_23 ?_
      refine z_ls5 eX12_fraction_25 zn9 ?_
      refine z_ll9 eX12_fraction_27 ?_
      refine z_ls7 eX12_fraction_29 zn9 ?_
      refine z_goto eX12_fraction_31 rfl ?_
      refine z_fg9 ?_
      have hy0 : 0 < y := by omega
      have hlt := Nat.mod_lt x hy0
      exact ih (x % y) hlt y ((gcd_step x y).trans hg) hy (by omega) (by rw [gcd_step]; exact hp)
theorem r_frac (h : zHp) (o u : Nat) (ho : o ≤ u) (hu : 0 < u) (hu2 : u < 9223372036854775808) : zCv mX12_fraction 1 [zA 117, zJ o, zJ u] h (fun h' => zup (zup h 117 2 ((o / Nat.gcd u o : Nat) : Int)) 117 3 ((u / Nat.gcd u o : Nat) : Int) = h') := by
  refine z_enter [zA 117, zJ o, zU, zJ u, zU, zU, zU, zU, zU, zU, zU] (by decide +kernel) (Nat.le_of_ble_eq_true rfl) rfl (fun hra hrg => ?_)
  refine z_ll1 eX12_fraction_0 ?_
  refine z_absl (y := 0) eX12_fraction_1 lX12_107 (by decide) (Nat.le_of_ble_eq_true rfl) (by omega) ?_
  refine z_ls5 eX12_fraction_4 zn9 ?_
  refine z_ll3 eX12_fraction_6 ?_
  refine z_ls7 eX12_fraction_7 zn9 ?_
  exact r_frac_l h o u ho hu hu2 u o (Nat.gcd_comm _ _) ho (Nat.le_refl _) (Nat.gcd_pos_of_pos_right _ hu)
