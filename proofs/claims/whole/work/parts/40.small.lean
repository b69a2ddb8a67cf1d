-- small methods of both, and the trays (written by wip/tools/specT1.py)
theorem r_refuse (h : zHp) (y : Int) : zCi mX12_refuse 0 [zA 117, zI y] h (fun v h' => (-1 : Int) = v ∧ zup h 117 0 y = h') := by
  refine z_enter [zA 117, zI y] (by decide +kernel) (Nat.le_of_ble_eq_true rfl) rfl (fun hra hrg => ?_)
  refine z_al0 eX12_refuse_0 ?_
  refine z_il1 eX12_refuse_1 ?_
  refine z_pi eX12_refuse_2 pX12_101 zs117 ?_
  refine z_ki eX12_refuse_5 ?_
  refine ze_i eX12_refuse_6 rfl ?_
  exact ⟨rfl, rfl⟩
theorem x_fail (h : zHp) (y : Int) : zCi mX11_fail 0 [zA 0, zI y] h (fun v h' => (-1 : Int) = v ∧ zup h 0 0 y = h') := by
  refine z_enter [zA 0, zI y] (by decide +kernel) (Nat.le_of_ble_eq_true rfl) rfl (fun hra hrg => ?_)
  refine z_al0 eX11_fail_0 ?_
  refine z_il1 eX11_fail_1 ?_
  refine z_pi eX11_fail_2 pX11_109 zs0 ?_
  refine z_ki eX11_fail_5 ?_
  refine ze_i eX11_fail_6 rfl ?_
  exact ⟨rfl, rfl⟩
theorem r_no (h : zHp) (y : Int) : zCi mX12_no 0 [zA 117, zI y] h (fun v h' => (0 : Int) = v ∧ zup h 117 0 y = h') := by
  refine z_enter [zA 117, zI y] (by decide +kernel) (Nat.le_of_ble_eq_true rfl) rfl (fun hra hrg => ?_)
  refine z_al0 eX12_no_0 ?_
  refine z_il1 eX12_no_1 ?_
  refine z_pi eX12_no_2 pX12_101 zs117 ?_
  refine z_ki eX12_no_5 ?_
  refine ze_z eX12_no_6 rfl (by first | exact Or.inl rfl | exact Or.inr rfl) ?_
  exact ⟨rfl, rfl⟩
theorem x_deny (h : zHp) (y : Int) : zCi mX11_deny 0 [zA 0, zI y] h (fun v h' => (0 : Int) = v ∧ zup h 0 0 y = h') := by
  refine z_enter [zA 0, zI y] (by decide +kernel) (Nat.le_of_ble_eq_true rfl) rfl (fun hra hrg => ?_)
  refine z_al0 eX11_deny_0 ?_
  refine z_il1 eX11_deny_1 ?_
  refine z_pi eX11_deny_2 pX11_109 zs0 ?_
  refine z_ki eX11_deny_5 ?_
  refine ze_z eX11_deny_6 rfl (by first | exact Or.inl rfl | exact Or.inr rfl) ?_
  exact ⟨rfl, rfl⟩
theorem x_answer (h : zHp) (y : Int) : zCi mX11_answer 0 [zA 0, zI y] h (fun v h' => y = v ∧ zup h 0 0 0 = h') := by
  refine z_enter [zA 0, zI y] (by decide +kernel) (Nat.le_of_ble_eq_true rfl) rfl (fun hra hrg => ?_)
  refine z_al0 eX11_answer_0 ?_
  refine z_ki eX11_answer_1 ?_
  refine z_pi eX11_answer_2 pX11_109 zs0 ?_
  refine z_il1 eX11_answer_5 ?_
  refine ze_i eX11_answer_6 rfl ?_
  exact ⟨rfl, rfl⟩
theorem x_agree (h : zHp) : zCi mX11_agree 0 [zA 0] h (fun v h' => (1 : Int) = v ∧ zup h 0 0 0 = h') := by
  refine z_enter [zA 0] (by decide +kernel) (Nat.le_of_ble_eq_true rfl) rfl (fun hra hrg => ?_)
  refine z_al0 eX11_agree_0 ?_
  refine z_ki eX11_agree_1 ?_
  refine z_pi eX11_agree_2 pX11_109 zs0 ?_
  refine z_ki eX11_agree_5 ?_
  refine ze_z eX11_agree_6 rfl (by first | exact Or.inl rfl | exact Or.inr rfl) ?_
  exact ⟨rfl, rfl⟩
theorem x_isTray (h : zHp) (x : Int) : zCi mX11_isTray 0 [zI x] h (fun v h' => (if 0 ≤ x ∧ x < 4 then 1 else 0) = v ∧ h = h') := by
  refine z_enter [zI x] (by decide +kernel) (Nat.le_of_ble_eq_true rfl) rfl (fun hra hrg => ?_)
  refine z_il0 eX11_isTray_0 ?_
  refine z_ilt eX11_isTray_1 rfl (fun c1 => ?_) (fun c1 => ?_)
  · refine z_ki eX11_isTray_13 ?_
    refine ze_z eX11_isTray_14 rfl (by first | exact Or.inl rfl | exact Or.inr rfl) ?_
    refine ⟨?_, rfl⟩
    first | (rw [if_pos (by omega)]; done) | (rw [if_neg (by omega)]; done)
  · refine z_il0 eX11_isTray_4 ?_
    refine z_ki eX11_isTray_5 ?_
    refine z_cge eX11_isTray_6 rfl (fun c6 => ?_) (fun c6 => ?_)
    · refine z_ki eX11_isTray_13 ?_
      refine ze_z eX11_isTray_14 rfl (by first | exact Or.inl rfl | exact Or.inr rfl) ?_
      refine ⟨?_, rfl⟩
      first | (rw [if_pos (by omega)]; done) | (rw [if_neg (by omega)]; done)
    · refine z_ki eX11_isTray_9 ?_
      refine z_goto eX11_isTray_10 rfl ?_
      refine ze_z eX11_isTray_14 rfl (by first | exact Or.inl rfl | exact Or.inr rfl) ?_
      refine ⟨?_, rfl⟩
      first | (rw [if_pos (by omega)]; done) | (rw [if_neg (by omega)]; done)
def zcut (s v : Int) : Int := if s = 0 then zi2b (zl2i v) else if s = 1 then zi2s (zl2i v) else if s = 2 then zl2i v else v
theorem zTr1 {t : Nat} (h : t < 4) : zRTa 1 t = 67 + 2 * t := by
  have : t = 0 ∨ t = 1 ∨ t = 2 ∨ t = 3 := by omega
  rcases this with rfl | rfl | rfl | rfl <;> rfl
theorem zTr2 {t : Nat} (h : t < 4) : zSH[67 + 2 * t]? = some (10, 4) := by
  have : t = 0 ∨ t = 1 ∨ t = 2 ∨ t = 3 := by omega
  rcases this with rfl | rfl | rfl | rfl <;> rfl
theorem zTr3 {t : Nat} (h : t < 4) : zRTa (67 + 2 * t) 3 = 68 + 2 * t := by
  have : t = 0 ∨ t = 1 ∨ t = 2 ∨ t = 3 := by omega
  rcases this with rfl | rfl | rfl | rfl <;> rfl
theorem zTr4 {t : Nat} (h : t < 4) : zSH[68 + 2 * t]? = some (21, 60) := by
  have : t = 0 ∨ t = 1 ∨ t = 2 ∨ t = 3 := by omega
  rcases this with rfl | rfl | rfl | rfl <;> rfl
theorem r_cut (h : zHp) (s x : Int) : zCj mX12_cut 0 [zI s, zJ x] h (fun v h' => zcut s x = v ∧ h = h') := by
  refine z_enter [zI s, zJ x, zU] (by decide +kernel) (Nat.le_of_ble_eq_true rfl) rfl (fun hra hrg => ?_)
  refine z_il0 eX12_cut_0 ?_
  refine z_ine eX12_cut_1 rfl (fun c1 => ?_) (fun c1 => ?_)
  · refine z_il0 eX12_cut_11 ?_
    refine z_ki eX12_cut_12 ?_
    refine z_cne eX12_cut_13 rfl (fun c13 => ?_) (fun c13 => ?_)
    · refine z_il0 eX12_cut_23 ?_
      refine z_ki eX12_cut_24 ?_
      refine z_cne eX12_cut_25 rfl (fun c25 => ?_) (fun c25 => ?_)
      · refine z_ll1 eX12_cut_34 ?_
        refine ze_j eX12_cut_35 rfl ?_
        exact ⟨((if_neg c1).trans (if_neg c13)).trans (if_neg c25), rfl⟩
      · refine z_ll1 eX12_cut_28 ?_
        refine z_l2i eX12_cut_29 ?_
        refine z_i2l eX12_cut_30 ?_
        refine z_goto eX12_cut_31 rfl ?_
        refine ze_j eX12_cut_35 rfl ?_
        exact ⟨((if_neg c1).trans (if_neg c13)).trans (if_pos c25), rfl⟩
    · refine z_ll1 eX12_cut_16 ?_
      refine z_l2i eX12_cut_17 ?_
      refine z_i2s eX12_cut_18 ?_
      refine z_i2l eX12_cut_19 ?_
      refine z_goto eX12_cut_20 rfl ?_
      refine ze_j eX12_cut_35 rfl ?_
      exact ⟨(if_neg c1).trans (if_pos c13), rfl⟩
  · refine z_ll1 eX12_cut_4 ?_
    refine z_l2i eX12_cut_5 ?_
    refine z_i2b eX12_cut_6 ?_
    refine z_i2l eX12_cut_7 ?_
    refine z_goto eX12_cut_8 rfl ?_
    refine ze_j eX12_cut_35 rfl ?_
    exact ⟨if_pos c1, rfl⟩
theorem x_has (h : zHp) (t : Nat) (ht : t < 4) (hs : 0 ≤ h (67 + 2 * t) 2 ∧ h (67 + 2 * t) 2 ≤ 60) (x y : Int) : zCi mX10_has 0 [zA (67 + 2 * t), zI x, zI y] h (fun v h' => (if 0 ≤ x ∧ 0 ≤ y ∧ x + y ≤ h (67 + 2 * t) 2 then 1 else 0) = v ∧ h = h') := by
  refine z_enter [zA (67 + 2 * t), zI x, zI y] (by decide +kernel) (Nat.le_of_ble_eq_true rfl) rfl (fun hra hrg => ?_)
  have hy := hra (zI y) (by simp)
  have hy2 : z32 y := hy
  unfold z32 at hy2
  refine z_il1 eX10_has_0 ?_
  refine z_ilt eX10_has_1 rfl (fun c1 => ?_) (fun c1 => ?_)
  · refine z_ki eX10_has_22 ?_
    refine ze_z eX10_has_23 rfl (by first | exact Or.inl rfl | exact Or.inr rfl) ?_
    refine ⟨?_, rfl⟩
    first | (rw [if_pos (by omega)]; done) | (rw [if_neg (by omega)]; done)
  · refine z_il2 eX10_has_4 ?_
    refine z_ilt eX10_has_5 rfl (fun c5 => ?_) (fun c5 => ?_)
    · refine z_ki eX10_has_22 ?_
      refine ze_z eX10_has_23 rfl (by first | exact Or.inl rfl | exact Or.inr rfl) ?_
      refine ⟨?_, rfl⟩
      first | (rw [if_pos (by omega)]; done) | (rw [if_neg (by omega)]; done)
    · refine z_il1 eX10_has_8 ?_
      refine z_al0 eX10_has_9 ?_
      refine z_gi eX10_has_10 fX10_23 (zTr2 ht) ?_
      refine z_il2 eX10_has_13 ?_
      refine z_isubN eX10_has_14 (by omega) (by omega) ?_
      refine z_cgt eX10_has_15 rfl (fun c15 => ?_) (fun c15 => ?_)
      · refine z_ki eX10_has_22 ?_
        refine ze_z eX10_has_23 rfl (by first | exact Or.inl rfl | exact Or.inr rfl) ?_
        refine ⟨?_, rfl⟩
        first | (rw [if_pos (by omega)]; done) | (rw [if_neg (by omega)]; done)
      · refine z_ki eX10_has_18 ?_
        refine z_goto eX10_has_19 rfl ?_
        refine ze_z eX10_has_23 rfl (by first | exact Or.inl rfl | exact Or.inr rfl) ?_
        refine ⟨?_, rfl⟩
        first | (rw [if_pos (by omega)]; done) | (rw [if_neg (by omega)]; done)
