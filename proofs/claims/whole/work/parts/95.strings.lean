-- Strings of the class, shifts of long (written by wip/tools/specY1.py)
theorem zshr0 : ∀ j : Nat, j < 22 → zshr ((zSLen.getD j 0 : Nat) : Int) 0 = ((zSLen.getD j 0 : Nat) : Int) := by decide +kernel
/-- letter i of the class's constant j -/
def kB (j i : Nat) : Int := (((zSTx.getD j []).getD i 0 : Nat) : Int)
def kL (j : Nat) : Nat := (zSTx.getD j []).length
theorem kL_eq : ∀ j : Nat, j < 22 → zSLen.getD j 0 = kL j ∧ 2 ≤ kL j ∧ kL j ≤ 6 := by decide +kernel
theorem kB_eq0 : ∀ j : Nat, j < 22 → ∀ i : Nat, i < 6 → i < kL j → zi2c (zand ((zSByt.getD j []).getD i 0).toInt 255) = kB j i ∧ 97 ≤ kB j i ∧ kB j i ≤ 122 := by decide +kernel
theorem kB_eq {j i : Nat} (hj : j < 22) (hi : i < kL j) : zi2c (zand ((zSByt.getD j []).getD i 0).toInt 255) = kB j i ∧ 97 ≤ kB j i ∧ kB j i ≤ 122 := kB_eq0 j hj i (by have := kL_eq j hj; omega) hi
theorem kB_n : ∀ x : Nat, x < 128 → narrow .char (.int (Int32.ofInt (x : Int))) = .int (Int32.ofInt (x : Int)) := by decide +kernel
theorem kB_nr {j i : Nat} (hj : j < 22) (hi : i < kL j) : narrow .char (.int (Int32.ofInt (kB j i))) = .int (Int32.ofInt (kB j i)) := by
  have q := (kB_eq hj hi).2
  have e : kB j i = (((kB j i).toNat : Nat) : Int) := by omega
  rw [e]
  exact kB_n _ (by omega)
theorem zlshl5 {w : Nat} (h : w < 1125899906842624) : zlshl (w : Int) 5 = ((w * 32 : Nat) : Int) := by
  have h1 : (Int64.ofInt (w : Int) <<< ((Int32.ofInt 5).toInt64 &&& 63)).toBitVec.toNat = w * 32 := by
    rw [Int64.toBitVec_shiftLeft]
    show ((BitVec.ofInt 64 (w : Int)) <<< (((Int32.ofInt 5).toInt64 &&& 63).toBitVec.smod 64).toNat).toNat = _
    rw [show (((Int32.ofInt 5).toInt64 &&& 63).toBitVec.smod 64).toNat = 5 by decide, BitVec.toNat_shiftLeft, BitVec.toNat_ofInt, Nat.shiftLeft_eq]
    omega
  show (Int64.ofInt (w : Int) <<< ((Int32.ofInt 5).toInt64 &&& 63)).toBitVec.toInt = _
  rw [BitVec.toInt_eq_toNat_of_lt (by rw [h1]; omega), h1]
theorem zlor5 {w x : Nat} (h : w < 1125899906842624) (hx : x < 32) : zlor ((w * 32 : Nat) : Int) (x : Int) = ((w * 32 + x : Nat) : Int) := by
  have h1 : (Int64.ofInt ((w * 32 : Nat) : Int) ||| Int64.ofInt (x : Int)).toBitVec.toNat = w * 32 + x := by
    show ((BitVec.ofInt 64 ((w * 32 : Nat) : Int)) ||| (BitVec.ofInt 64 (x : Int))).toNat = _
    rw [BitVec.toNat_or, BitVec.toNat_ofInt, BitVec.toNat_ofInt]
    rw [show (((w * 32 : Nat) : Int) % ((2 ^ 64 : Nat) : Int)).toNat = 2 ^ 5 * w by omega, show ((x : Int) % ((2 ^ 64 : Nat) : Int)).toNat = x by omega, ← Nat.two_pow_add_eq_or_of_lt (show x < 2 ^ 5 by omega)]
    omega
  show (Int64.ofInt ((w * 32 : Nat) : Int) ||| Int64.ofInt (x : Int)).toBitVec.toInt = _
  rw [BitVec.toInt_eq_toNat_of_lt (by rw [h1]; omega), h1]
theorem j_coder (h : zHp) (j : Nat) (hj : j < zSTx.length) : zCi mJ0_coder_7d493 0 [zT j] h (fun v h' => (0 : Int) = v ∧ h = h') := by
  refine z_enter [zT j] (by decide +kernel) (Nat.le_of_ble_eq_true rfl) rfl (fun hra hrg => ?_)
  refine z_gsC eJ0_coder_7d493_0 zfs ?_
  refine z_ieq eJ0_coder_7d493_3 rfl (fun c3 => ?_) (fun c3 => ?_)
  · exact absurd c3 (by decide)
  · refine z_aldT eJ0_coder_7d493_6 rfl ?_
    refine z_gTc eJ0_coder_7d493_7 zfc hj ?_
    refine z_goto eJ0_coder_7d493_10 rfl ?_
    refine ze_n eJ0_coder_7d493_14 rfl (by rfl) ?_
    exact ⟨rfl, rfl⟩
theorem j_latin (h : zHp) (j : Nat) (hj : j < zSTx.length) : zCi mJ0_isLatin1_aae02 0 [zT j] h (fun v h' => (1 : Int) = v ∧ h = h') := by
  refine z_enter [zT j] (by decide +kernel) (Nat.le_of_ble_eq_true rfl) rfl (fun hra hrg => ?_)
  refine z_gsC eJ0_isLatin1_aae02_0 zfs ?_
  refine z_ieq eJ0_isLatin1_aae02_3 rfl (fun c3 => ?_) (fun c3 => ?_)
  · exact absurd c3 (by decide)
  · refine z_aldT eJ0_isLatin1_aae02_6 rfl ?_
    refine z_gTc eJ0_isLatin1_aae02_7 zfc hj ?_
    refine z_ine eJ0_isLatin1_aae02_10 rfl (fun c10 => ?_) (fun c10 => ?_)
    · exact absurd rfl c10
    · refine z_ki eJ0_isLatin1_aae02_13 ?_
      refine z_goto eJ0_isLatin1_aae02_14 rfl ?_
      refine ze_z eJ0_isLatin1_aae02_18 rfl (by first | exact Or.inl rfl | exact Or.inr rfl) ?_
      exact ⟨rfl, rfl⟩
theorem j_length (h : zHp) (j : Nat) (hj : j < zSTx.length) : zCi mJ0_length_8abf5 1 [zT j] h (fun v h' => ((kL j : Nat) : Int) = v ∧ h = h') := by
  refine z_enter [zT j] (by decide +kernel) (Nat.le_of_ble_eq_true rfl) rfl (fun hra hrg => ?_)
  refine z_aldT eJ0_length_8abf5_0 rfl ?_
  refine z_gTv eJ0_length_8abf5_1 zfv hj ?_
  refine z_lB eJ0_length_8abf5_4 hj ?_
  refine z_aldT eJ0_length_8abf5_5 rfl ?_
  refine zc_Ti0 eJ0_length_8abf5_6 lJ0_335 tJ0_coder_7d493 (hj) (by decide) (Nat.le_of_ble_eq_true rfl) (j_coder _ j hj) ?_
  rintro _ _ ⟨rfl, rfl⟩ -
  refine z_ishr eJ0_length_8abf5_9 ?_
  refine ze_i eJ0_length_8abf5_10 rfl ?_
  exact ⟨by rw [zshr0 j hj, (kL_eq j hj).1], rfl⟩
theorem j_check3 (h : zHp) (i n t : Int) (h0 : 0 ≤ i) (h1 : i < n) : zCi mJ3_checkIndex_8e157 0 [zI i, zI n, zF t] h (fun v h' => i = v ∧ h = h') := by
  refine z_enter [zI i, zI n, zF t] (by decide +kernel) (Nat.le_of_ble_eq_true rfl) rfl (fun hra hrg => ?_)
  refine z_il0 eJ3_checkIndex_8e157_0 ?_
  refine z_ilt eJ3_checkIndex_8e157_1 rfl (fun c1 => ?_) (fun c1 => ?_)
  · omega
  · refine z_il0 eJ3_checkIndex_8e157_4 ?_
    refine z_il1 eJ3_checkIndex_8e157_5 ?_
    refine z_clt eJ3_checkIndex_8e157_6 rfl (fun c6 => ?_) (fun c6 => ?_)
    · refine z_il0 eJ3_checkIndex_8e157_16 ?_
      refine ze_i eJ3_checkIndex_8e157_17 rfl ?_
      exact ⟨rfl, rfl⟩
    · omega
theorem j_check0 (h : zHp) (i n : Int) (h0 : 0 ≤ i) (h1 : i < n) : zCv mJ0_checkIndex_df160 1 [zI i, zI n] h (fun h' => h = h') := by
  refine z_enter [zI i, zI n] (by decide +kernel) (Nat.le_of_ble_eq_true rfl) rfl (fun hra hrg => ?_)
  refine z_il0 eJ0_checkIndex_df160_0 ?_
  refine z_il1 eJ0_checkIndex_df160_1 ?_
  refine z_gsF eJ0_checkIndex_df160_2 zff (fun tf => ?_)
  refine zc_si3 eJ0_checkIndex_df160_5 lJ0_1059 tJ3_checkIndex_8e157 (by decide) (Nat.le_of_ble_eq_true rfl) (j_check3 _ _ _ _ h0 h1) ?_
  rintro _ _ ⟨rfl, rfl⟩ -
  refine z_pop eJ0_checkIndex_df160_8 zn0 ?_
  refine ze_v eJ0_checkIndex_df160_9 rfl ?_
  rfl
theorem j_char1 (h : zHp) (j i : Nat) (hj : j < zSTx.length) (hi : i < kL j) : zCi mJ1_charAt_3b067 2 [zB j, zI i] h (fun v h' => kB j i = v ∧ h = h') := by
  refine z_enter [zB j, zI i] (by decide +kernel) (Nat.le_of_ble_eq_true rfl) rfl (fun hra hrg => ?_)
  refine z_il1 eJ1_charAt_3b067_0 ?_
  refine z_aldB eJ1_charAt_3b067_1 rfl ?_
  refine z_lB eJ1_charAt_3b067_2 hj ?_
  have hl := kL_eq j hj
  have hi2 : (i : Int) < ((zSLen.getD j 0 : Nat) : Int) := by rw [hl.1]; omega
  refine zc_sv2 eJ1_charAt_3b067_3 lJ1_9 tJ0_checkIndex_df160 (by decide) (Nat.le_of_ble_eq_true rfl) (j_check0 _ _ _ (by omega) hi2) ?_
  rintro _ rfl
  refine z_aldB eJ1_charAt_3b067_6 rfl ?_
  refine z_il1 eJ1_charAt_3b067_7 ?_
  refine z_baldB eJ1_charAt_3b067_8 hj (by omega) (by exact hi2) ?_
  refine z_ki eJ1_charAt_3b067_9 ?_
  refine z_iand eJ1_charAt_3b067_12 ?_
  refine z_i2c eJ1_charAt_3b067_13 ?_
  rw [show ((i : Nat) : Int).toNat = i from rfl, (kB_eq hj hi).1]
  refine ze_n eJ1_charAt_3b067_14 rfl (by exact kB_nr hj hi) ?_
  exact ⟨rfl, rfl⟩
theorem j_charAt (h : zHp) (j i : Nat) (hj : j < zSTx.length) (hi : i < kL j) : zCi mJ0_charAt_5068e 3 [zT j, zI i] h (fun v h' => kB j i = v ∧ h = h') := by
  refine z_enter [zT j, zI i] (by decide +kernel) (Nat.le_of_ble_eq_true rfl) rfl (fun hra hrg => ?_)
  refine z_aldT eJ0_charAt_5068e_0 rfl ?_
  refine zc_Ti0 eJ0_charAt_5068e_1 lJ0_492 tJ0_isLatin1_aae02 (hj) (by decide) (Nat.le_of_ble_eq_true rfl) (j_latin _ j hj) ?_
  rintro _ _ ⟨rfl, rfl⟩ -
  refine z_ieq eJ0_charAt_5068e_4 rfl (fun c4 => ?_) (fun c4 => ?_)
  · exact absurd c4 (by decide)
  · refine z_aldT eJ0_charAt_5068e_7 rfl ?_
    refine z_gTv eJ0_charAt_5068e_8 zfv hj ?_
    refine z_il1 eJ0_charAt_5068e_11 ?_
    refine zc_si2 eJ0_charAt_5068e_12 lJ0_495 tJ1_charAt_3b067 (by decide) (Nat.le_of_ble_eq_true rfl) (j_char1 _ j i hj hi) ?_
    rintro _ _ ⟨rfl, rfl⟩ -
    refine ze_n eJ0_charAt_5068e_15 rfl (by exact kB_nr hj hi) ?_
    exact ⟨rfl, rfl⟩
