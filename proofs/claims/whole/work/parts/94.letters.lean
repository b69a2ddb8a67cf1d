-- the tape: letters, digits, look (written by wip/tools/specW1.py)
theorem x_isLetter (h : zHp) (x : Int) : zCi mX9_isLetter 0 [zI x] h (fun v h' => (if 97 ≤ x ∧ x ≤ 122 then 1 else 0) = v ∧ h = h') := by
  refine z_enter [zI x] (by decide +kernel) (Nat.le_of_ble_eq_true rfl) rfl (fun hra hrg => ?_)
  refine z_il0 eX9_isLetter_0 ?_
  refine z_ki eX9_isLetter_1 ?_
  refine z_clt eX9_isLetter_3 rfl (fun c3 => ?_) (fun c3 => ?_)
  · refine z_ki eX9_isLetter_16 ?_
    refine ze_z eX9_isLetter_17 rfl (by first | exact Or.inl rfl | exact Or.inr rfl) ?_
    refine ⟨?_, rfl⟩
    first | (rw [if_pos (by omega)]; done) | (rw [if_neg (by omega)]; done)
  · refine z_il0 eX9_isLetter_6 ?_
    refine z_ki eX9_isLetter_7 ?_
    refine z_cgt eX9_isLetter_9 rfl (fun c9 => ?_) (fun c9 => ?_)
    · refine z_ki eX9_isLetter_16 ?_
      refine ze_z eX9_isLetter_17 rfl (by first | exact Or.inl rfl | exact Or.inr rfl) ?_
      refine ⟨?_, rfl⟩
      first | (rw [if_pos (by omega)]; done) | (rw [if_neg (by omega)]; done)
    · refine z_ki eX9_isLetter_12 ?_
      refine z_goto eX9_isLetter_13 rfl ?_
      refine ze_z eX9_isLetter_17 rfl (by first | exact Or.inl rfl | exact Or.inr rfl) ?_
      refine ⟨?_, rfl⟩
      first | (rw [if_pos (by omega)]; done) | (rw [if_neg (by omega)]; done)
theorem x_isDigit (h : zHp) (x : Int) : zCi mX9_isDigit 0 [zI x] h (fun v h' => (if 48 ≤ x ∧ x ≤ 57 then 1 else 0) = v ∧ h = h') := by
  refine z_enter [zI x] (by decide +kernel) (Nat.le_of_ble_eq_true rfl) rfl (fun hra hrg => ?_)
  refine z_il0 eX9_isDigit_0 ?_
  refine z_ki eX9_isDigit_1 ?_
  refine z_clt eX9_isDigit_3 rfl (fun c3 => ?_) (fun c3 => ?_)
  · refine z_ki eX9_isDigit_16 ?_
    refine ze_z eX9_isDigit_17 rfl (by first | exact Or.inl rfl | exact Or.inr rfl) ?_
    refine ⟨?_, rfl⟩
    first | (rw [if_pos (by omega)]; done) | (rw [if_neg (by omega)]; done)
  · refine z_il0 eX9_isDigit_6 ?_
    refine z_ki eX9_isDigit_7 ?_
    refine z_cgt eX9_isDigit_9 rfl (fun c9 => ?_) (fun c9 => ?_)
    · refine z_ki eX9_isDigit_16 ?_
      refine ze_z eX9_isDigit_17 rfl (by first | exact Or.inl rfl | exact Or.inr rfl) ?_
      refine ⟨?_, rfl⟩
      first | (rw [if_pos (by omega)]; done) | (rw [if_neg (by omega)]; done)
    · refine z_ki eX9_isDigit_12 ?_
      refine z_goto eX9_isDigit_13 rfl ?_
      refine ze_z eX9_isDigit_17 rfl (by first | exact Or.inl rfl | exact Or.inr rfl) ?_
      refine ⟨?_, rfl⟩
      first | (rw [if_pos (by omega)]; done) | (rw [if_neg (by omega)]; done)
theorem r_isLetter (h : zHp) (x : Int) : zCi mX12_isLetter 0 [zI x] h (fun v h' => (if 97 ≤ x ∧ x ≤ 122 then 1 else 0) = v ∧ h = h') := by
  refine z_enter [zI x] (by decide +kernel) (Nat.le_of_ble_eq_true rfl) rfl (fun hra hrg => ?_)
  refine z_il0 eX12_isLetter_0 ?_
  refine z_ki eX12_isLetter_1 ?_
  refine z_clt eX12_isLetter_3 rfl (fun c3 => ?_) (fun c3 => ?_)
  · refine z_ki eX12_isLetter_16 ?_
    refine ze_z eX12_isLetter_17 rfl (by first | exact Or.inl rfl | exact Or.inr rfl) ?_
    refine ⟨?_, rfl⟩
    first | (rw [if_pos (by omega)]; done) | (rw [if_neg (by omega)]; done)
  · refine z_il0 eX12_isLetter_6 ?_
    refine z_ki eX12_isLetter_7 ?_
    refine z_cgt eX12_isLetter_9 rfl (fun c9 => ?_) (fun c9 => ?_)
    · refine z_ki eX12_isLetter_16 ?_
      refine ze_z eX12_isLetter_17 rfl (by first | exact Or.inl rfl | exact Or.inr rfl) ?_
      refine ⟨?_, rfl⟩
      first | (rw [if_pos (by omega)]; done) | (rw [if_neg (by omega)]; done)
    · refine z_ki eX12_isLetter_12 ?_
      refine z_goto eX12_isLetter_13 rfl ?_
      refine ze_z eX12_isLetter_17 rfl (by first | exact Or.inl rfl | exact Or.inr rfl) ?_
      refine ⟨?_, rfl⟩
      first | (rw [if_pos (by omega)]; done) | (rw [if_neg (by omega)]; done)
theorem r_isDigit (h : zHp) (x : Int) : zCi mX12_isDigit 0 [zI x] h (fun v h' => (if 48 ≤ x ∧ x ≤ 57 then 1 else 0) = v ∧ h = h') := by
  refine z_enter [zI x] (by decide +kernel) (Nat.le_of_ble_eq_true rfl) rfl (fun hra hrg => ?_)
  refine z_il0 eX12_isDigit_0 ?_
  refine z_ki eX12_isDigit_1 ?_
  refine z_clt eX12_isDigit_3 rfl (fun c3 => ?_) (fun c3 => ?_)
  · refine z_ki eX12_isDigit_16 ?_
    refine ze_z eX12_isDigit_17 rfl (by first | exact Or.inl rfl | exact Or.inr rfl) ?_
    refine ⟨?_, rfl⟩
    first | (rw [if_pos (by omega)]; done) | (rw [if_neg (by omega)]; done)
  · refine z_il0 eX12_isDigit_6 ?_
    refine z_ki eX12_isDigit_7 ?_
    refine z_cgt eX12_isDigit_9 rfl (fun c9 => ?_) (fun c9 => ?_)
    · refine z_ki eX12_isDigit_16 ?_
      refine ze_z eX12_isDigit_17 rfl (by first | exact Or.inl rfl | exact Or.inr rfl) ?_
      refine ⟨?_, rfl⟩
      first | (rw [if_pos (by omega)]; done) | (rw [if_neg (by omega)]; done)
    · refine z_ki eX12_isDigit_12 ?_
      refine z_goto eX12_isDigit_13 rfl ?_
      refine ze_z eX12_isDigit_17 rfl (by first | exact Or.inl rfl | exact Or.inr rfl) ?_
      refine ⟨?_, rfl⟩
      first | (rw [if_pos (by omega)]; done) | (rw [if_neg (by omega)]; done)
