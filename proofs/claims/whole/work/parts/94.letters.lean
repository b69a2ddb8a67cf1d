-- the tape: letters, digits, look (written by wip/tools/specW1.py)
theorem x_isLetter (h : zHp) (x : Int) : zCi mX9_isLetter 0 [zI x] h (fun v h' => (if 97 ≤ x ∧ x ≤ 122 then 1 else 0) = v ∧ h = h') := by
  refine z_enter [zI x] (by decide +kernel) (Nat.le_of_ble_eq_true rfl) rfl (fun hra hrg => ?_)
  refine z_il0 eX9_isLetter_0 ?_
  refine z_ki eX9_isLetter_1 ?_
  refine z_clt eX9_isLetter_3 rfl (fun c3 => ?_) (fun c3 => ?_)
  · refine z_ki eX9_isLetter_16 ?_
    refine ze_z eX9_isLetter_17 rfl (by first | exact Or.inl rfl | exact Or.inr rfl) ?_
    refine ⟨?_, rfl⟩
    first | (rw [if_pos (by omega)]; done) | (rw [if_neg (by omega)]; done)
  · refine z_il0 eX9_isLetter_6 ?_
    refine z_ki eX9_isLetter_7 ?_
    refine z_cgt eX9_isLetter_9 rfl (fun c9 => ?_) (fun c9 => ?_)
    · refine z_ki eX9_isLetter_16 ?_
      refine ze_z eX9_isLetter_17 rfl (by first | exact Or.inl rfl | exact Or.inr rfl) ?_
      refine ⟨?_, rfl⟩
      first | (rw [if_pos (by omega)]; done) | (rw [if_neg (by omega)]; done)
    · refine z_ki eX9_isLetter_12 ?_
      refine z_goto eX9_isLetter_13 rfl ?_
      refine ze_z eX9_isLetter_17 rfl (by first | exact Or.inl rfl | exact Or.inr rfl) ?_
      refine ⟨?_, rfl⟩
      first | (rw [if_pos (by omega)]; done) | (rw [if_neg (by omega)]; done)
theorem x_isDigit (h : zHp) (x : Int) : zCi mX9_isDigit 0 [zI x] h (fun v h' => (if 48 ≤ x ∧ x ≤ 57 then 1 else 0) = v ∧ h = h') := by
  refine z_enter [zI x] (by decide +kernel) (Nat.le_of_ble_eq_true rfl) rfl (fun hra hrg => ?_)
  refine z_il0 eX9_isDigit_0 ?_
  refine z_ki eX9_isDigit_1 ?_
  refine z_clt eX9_isDigit_3 rfl (fun c3 => ?_) (fun c3 => ?_)
  · refine z_ki eX9_isDigit_16 ?_
    refine ze_z eX9_isDigit_17 rfl (by first | exact Or.inl rfl | exact Or.inr rfl) ?_
    refine ⟨?_, rfl⟩
    first | (rw [if_pos (by omega)]; done) | (rw [if_neg (by omega)]; done)
  · refine z_il0 eX9_isDigit_6 ?_
    refine z_ki eX9_isDigit_7 ?_
    refine z_cgt eX9_isDigit_9 rfl (fun c9 => ?_) (fun c9 => ?_)
    · refine z_ki eX9_isDigit_16 ?_
      refine ze_z eX9_isDigit_17 rfl (by first | exact Or.inl rfl | exact Or.inr rfl) ?_
      refine ⟨?_, rfl⟩
      first | (rw [if_pos (by omega)]; done) | (rw [if_neg (by omega)]; done)
    · refine z_ki eX9_isDigit_12 ?_
      refine z_goto eX9_isDigit_13 rfl ?_
      refine ze_z eX9_isDigit_17 rfl (by first | exact Or.inl rfl | exact Or.inr rfl) ?_
      refine ⟨?_, rfl⟩
      first | (rw [if_pos (by omega)]; done) | (rw [if_neg (by omega)]; done)
theorem r_isLetter (h : zHp) (x : Int) : zCi mX12_isLetter 0 [zI x] h (fun v h' => (if 97 ≤ x ∧ x ≤ 122 then 1 else 0) = v ∧ h = h') := by
  refine z_enter [zI x] (by decide +kernel) (Nat.le_of_ble_eq_true rfl) rfl (fun hra hrg => ?_)
  refine z_il0 eX12_isLetter_0 ?_
  refine z_ki eX12_isLetter_1 ?_
  refine z_clt eX12_isLetter_3 rfl (fun c3 => ?_) (fun c3 => ?_)
  · refine z_ki eX12_isLetter_16 ?_
    refine ze_z eX12_isLetter_17 rfl (by first | exact Or.inl rfl | exact Or.inr rfl) ?_
    refine ⟨?_, rfl⟩
    first | (rw [if_pos (by omega)]; done) | (rw [if_neg (by omega)]; done)
  · refine z_il0 eX12_isLetter_6 ?_
    refine z_ki eX12_isLetter_7 ?_
    refine z_cgt eX12_isLetter_9 rfl (fun c9 => ?_) (fun c9 => ?_)
    · refine z_ki eX12_isLetter_16 ?_
      refine ze_z eX12_isLetter_17 rfl (by first | exact Or.inl rfl | exact Or.inr rfl) ?_
      refine ⟨?_, rfl⟩
      first | (rw [if_pos (by omega)]; done) | (rw [if_neg (by omega)]; done)
    · refine z_ki eX12_isLetter_12 ?_
      refine z_goto eX12_isLetter_13 rfl ?_
      refine ze_z eX12_isLetter_17 rfl (by first | exact Or.inl rfl | exact Or.inr rfl) ?_
      refine ⟨?_, rfl⟩
      first | (rw [if_pos (by omega)]; done) | (rw [if_neg (by omega)]; done)
theorem r_isDigit (h : zHp) (x : Int) : zCi mX12_isDigit 0 [zI x] h (fun v h' => (if 48 ≤ x ∧ x ≤ 57 then 1 else 0) = v ∧ h = h') := by
  refine z_enter [zI x] (by decide +kernel) (Nat.le_of_ble_eq_true rfl) rfl (fun hra hrg => ?_)
  refine z_il0 eX12_isDigit_0 ?_
  refine z_ki eX12_isDigit_1 ?_
  refine z_clt eX12_isDigit_3 rfl (fun c3 => ?_) (fun c3 => ?_)
  · refine z_ki eX12_isDigit_16 ?_
    refine ze_z eX12_isDigit_17 rfl (by first | exact Or.inl rfl | exact Or.inr rfl) ?_
    refine ⟨?_, rfl⟩
    first | (rw [if_pos (by omega)]; done) | (rw [if_neg (by omega)]; done)
  · refine z_il0 eX12_isDigit_6 ?_
    refine z_ki eX12_isDigit_7 ?_
    refine z_cgt eX12_isDigit_9 rfl (fun c9 => ?_) (fun c9 => ?_)
    · refine z_ki eX12_isDigit_16 ?_
      refine ze_z eX12_isDigit_17 rfl (by first | exact Or.inl rfl | exact Or.inr rfl) ?_
      refine ⟨?_, rfl⟩
      first | (rw [if_pos (by omega)]; done) | (rw [if_neg (by omega)]; done)
    · refine z_ki eX12_isDigit_12 ?_
      refine z_goto eX12_isDigit_13 rfl ?_
      refine ze_z eX12_isDigit_17 rfl (by first | exact Or.inl rfl | exact Or.inr rfl) ?_
      refine ⟨?_, rfl⟩
      first | (rw [if_pos (by omega)]; done) | (rw [if_neg (by omega)]; done)
theorem r_look (h : zHp) (i : Nat) (hE : h 117 9 ≤ 700) : zCi mX12_look 0 [zA 117, zI i] h (fun v h' => (if (i : Int) < h 117 9 then zand (h 121 i) 255 else 0) = v ∧ h = h') := by
  refine z_enter [zA 117, zI i] (by decide +kernel) (Nat.le_of_ble_eq_true rfl) rfl (fun hra hrg => ?_)
  refine z_il1 eX12_look_0 ?_
  refine z_al0 eX12_look_1 ?_
  refine z_gi eX12_look_2 fX12_137 zs117 ?_
  refine z_cge eX12_look_5 rfl (fun c5 => ?_) (fun c5 => ?_)
  · refine z_ki eX12_look_21 ?_
    refine ze_i eX12_look_22 rfl ?_
    refine ⟨?_, rfl⟩
    first | (rw [if_pos (by omega)]; done) | (rw [if_neg (by omega)]; done)
  · refine z_al0 eX12_look_8 ?_
    refine z_ga eX12_look_9 fX12_24 zs117 (t := 121) rfl ?_
    refine z_il1 eX12_look_12 ?_
    refine zr_bN eX12_look_13 zs121 (j := i) (by omega) (by omega) ?_
    refine z_ki eX12_look_14 ?_
    refine z_iand eX12_look_17 ?_
    refine z_goto eX12_look_18 rfl ?_
    refine ze_i eX12_look_22 rfl ?_
    refine ⟨?_, rfl⟩
    first | (rw [if_pos (by omega)]; done) | (rw [if_neg (by omega)]; done)
