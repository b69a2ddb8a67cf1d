-- calls that only tell (written by wip/tools/specR1.py)
/-- the class tells q = (answer, status), and leaves all but its status and scratch -/
def pX0 (h : zHp) (q : Int × Int) (v : Int) (h1 : zHp) : Prop := q.1 = v ∧ h1 0 0 = q.2 ∧ (∀ a : Nat, 117 ≤ a → h1 a = h a) ∧ zEx [] h h1
def pM0 (h : zHp) (q : Int × Int) (v : Int) (h1 : zHp) : Prop := q.1 = v ∧ h1 117 0 = q.2 ∧ (∀ a : Nat, a < 117 → h1 a = h a) ∧ zEx [] h h1
theorem pX0_st (h : zHp) (y v : Int) : pX0 h (v, y) v (zup h 0 0 y) := ⟨rfl, zup_at _ _ _ _, fun a ha => zup_off (by omega), zEx.rf.up (Or.inl rfl)⟩
theorem pX0_at {h : zHp} {q : Int × Int} {v y : Int} (h1 : q = (v, y)) : pX0 h q v (zup h 0 0 y) := h1 ▸ pX0_st h y v
/-- behind thrown = 0, status = 0 -/
theorem pM0_0 {h : zHp} {q : Int × Int} {v : Int} (h1 : q = (v, 0)) : pM0 h q v (zup (zup h 117 1 0) 117 0 0) := by
  subst h1
  exact ⟨rfl, zup_at _ _ _ _, fun a ha => by rw [zup_off (by omega), zup_off (by omega)], (zEx.rf.up (Or.inl rfl)).up (Or.inl rfl)⟩
theorem pM0_r {h : zHp} {q : Int × Int} {v y : Int} (h1 : q = (v, y)) : pM0 h q v (zup (zup (zup h 117 1 0) 117 0 0) 117 0 y) := by
  subst h1
  exact ⟨rfl, zup_at _ _ _ _, fun a ha => by rw [zup_off (by omega), zup_off (by omega), zup_off (by omega)], ((zEx.rf.up (Or.inl rfl)).up (Or.inl rfl)).up (Or.inl rfl)⟩
theorem Rel.tell {h h1 h2 : zHp} {q : Int × Int} {v v' : Int} (H : Rel h) (hx : pX0 h q v h1) (hm : pM0 h1 q v' h2) : v = v' ∧ Rel h2 ∧ h2 200 = h 200 ∧ h2 201 = h 201 := by
  obtain ⟨a1, a2, a3, a4⟩ := hx
  obtain ⟨b1, b2, b3, b4⟩ := hm
  refine ⟨by rw [← a1, ← b1], Rel.ex (a4.tr b4) (by rw [b3 0 (by omega), a2, b2]) H, ?_, ?_⟩
  · rw [oc_fn (b4 10 (by omega) (by omega) (by simp)) (fun i => rfl), a3 200 (by omega)]
  · rw [oc_fn (b4 10 (by omega) (by omega) (by simp)) (fun i => rfl), a3 201 (by omega)]
theorem h00_117 {h : zHp} {i : Nat} (h0 : ¬ i = 0) (h1 : ¬ i = 1) : zup (zup h 117 1 0) 117 0 0 117 i = h 117 i := by rw [zup_ne (by omega), zup_ne (by omega)]
theorem h00_off {h : zHp} {a : Nat} (h0 : ¬ a = 117) : zup (zup h 117 1 0) 117 0 0 a = h a := by rw [zup_off h0, zup_off h0]
def qFound (h : zHp) (x : Int) : Int × Int := if x = 0 ∨ x = 1 then (if h 117 52 = 0 ∨ (x = 1 ∧ h 117 52 = 2) then (-1, 8) else if x = 0 then (h 117 49, 0) else (h 117 50, 0)) else (-1, 5)
def qMoved (h : zHp) (x : Int) : Int × Int := if h 117 52 = 2 ∧ 0 ≤ x ∧ x < h 117 51 then (h 138 x.toNat, 0) else (-1, 8)
def qOpen (h : zHp) : Int × Int := if h 117 62 = 0 then (-1, 8) else (h 117 61, 0)
theorem x_found (h : zHp) (H : rFound h) (x : Int) : zCi mX11_found 1 [zA 0, zI x] h (fun v h' => pX0 h (qFound h x) v h') := by
  refine z_enter [zA 0, zI x] (by decide +kernel) (Nat.le_of_ble_eq_true rfl) rfl (fun hra hrg => ?_)
  obtain ⟨f0, f1, f2, f3, f4⟩ := H
  refine z_il1 eX11_found_0 ?_
  refine z_ieq eX11_found_1 rfl (fun c1 => ?_) (fun c1 => ?_)
  · refine z_al0 eX11_found_15 ?_
    refine z_ga eX11_found_16 fX11_81 zs0 (t := 58) rfl ?_
    refine z_gi eX11_found_19 fX11_313 zs58 ?_
    refine z_ieq eX11_found_22 rfl (fun c22 => ?_) (fun c22 => ?_)
    · refine z_al0 eX11_found_41 ?_
      refine z_ki eX11_found_42 ?_
      refine zc_vi1 eX11_found_44 lX11_153 tX11_fail zs0 (by decide) (Nat.le_of_ble_eq_true rfl) (x_fail _ _) ?_
      rintro _ _ ⟨rfl, rfl⟩ -
      refine ze_i eX11_found_47 rfl ?_
      exact pX0_at ((if_pos (by omega)).trans (if_pos (by omega)))
    · refine z_il1 eX11_found_25 ?_
      refine z_ki eX11_found_26 ?_
      refine z_cne eX11_found_27 rfl (fun c27 => ?_) (fun c27 => ?_)
      · refine z_al0 eX11_found_48 ?_
        refine z_il1 eX11_found_49 ?_
        refine z_ine eX11_found_50 rfl (fun c50 => ?_) (fun c50 => ?_)
        · refine z_al0 eX11_found_63 ?_
          refine z_ga eX11_found_64 fX11_81 zs0 (t := 58) rfl ?_
          refine z_gi eX11_found_67 fX11_319 zs58 ?_
          refine zc_vi1 eX11_found_70 lX11_202 tX11_answer zs0 (by decide) (Nat.le_of_ble_eq_true rfl) (x_answer _ _) ?_
          rintro _ _ ⟨rfl, rfl⟩ -
          refine ze_i eX11_found_73 rfl ?_
          exact pX0_at (by rw [qFound, if_pos (by omega), if_neg (by omega), if_neg (by omega), f3 (by omega)])
        · refine z_al0 eX11_found_53 ?_
          refine z_ga eX11_found_54 fX11_81 zs0 (t := 58) rfl ?_
          refine z_gi eX11_found_57 fX11_316 zs58 ?_
          refine z_goto eX11_found_60 rfl ?_
          refine zc_vi1 eX11_found_70 lX11_202 tX11_answer zs0 (by decide) (Nat.le_of_ble_eq_true rfl) (x_answer _ _) ?_
          rintro _ _ ⟨rfl, rfl⟩ -
          refine ze_i eX11_found_73 rfl ?_
          exact pX0_at (by rw [qFound, if_pos (by omega), if_neg (by omega), if_pos (by omega), f2 (by omega)])
      · refine z_al0 eX11_found_30 ?_
        refine z_ga eX11_found_31 fX11_81 zs0 (t := 58) rfl ?_
        refine z_gi eX11_found_34 fX11_313 zs58 ?_
        refine z_ki eX11_found_37 ?_
        refine z_cne eX11_found_38 rfl (fun c38 => ?_) (fun c38 => ?_)
        · refine z_al0 eX11_found_48 ?_
          refine z_il1 eX11_found_49 ?_
          refine z_ine eX11_found_50 rfl (fun c50 => ?_) (fun c50 => ?_)
          · refine z_al0 eX11_found_63 ?_
            refine z_ga eX11_found_64 fX11_81 zs0 (t := 58) rfl ?_
            refine z_gi eX11_found_67 fX11_319 zs58 ?_
            refine zc_vi1 eX11_found_70 lX11_202 tX11_answer zs0 (by decide) (Nat.le_of_ble_eq_true rfl) (x_answer _ _) ?_
            rintro _ _ ⟨rfl, rfl⟩ -
            refine ze_i eX11_found_73 rfl ?_
            exact pX0_at (by rw [qFound, if_pos (by omega), if_neg (by omega), if_neg (by omega), f3 (by omega)])
          · refine z_al0 eX11_found_53 ?_
            refine z_ga eX11_found_54 fX11_81 zs0 (t := 58) rfl ?_
            refine z_gi eX11_found_57 fX11_316 zs58 ?_
            refine z_goto eX11_found_60 rfl ?_
            refine zc_vi1 eX11_found_70 lX11_202 tX11_answer zs0 (by decide) (Nat.le_of_ble_eq_true rfl) (x_answer _ _) ?_
            rintro _ _ ⟨rfl, rfl⟩ -
            refine ze_i eX11_found_73 rfl ?_
            exact pX0_at (by rw [qFound, if_pos (by omega), if_neg (by omega), if_pos (by omega), f2 (by omega)])
        · refine z_al0 eX11_found_41 ?_
          refine z_ki eX11_found_42 ?_
          refine zc_vi1 eX11_found_44 lX11_153 tX11_fail zs0 (by decide) (Nat.le_of_ble_eq_true rfl) (x_fail _ _) ?_
          rintro _ _ ⟨rfl, rfl⟩ -
          refine ze_i eX11_found_47 rfl ?_
          exact pX0_at ((if_pos (by omega)).trans (if_pos (by omega)))
  · refine z_il1 eX11_found_4 ?_
    refine z_ki eX11_found_5 ?_
    refine z_ceq eX11_found_6 rfl (fun c6 => ?_) (fun c6 => ?_)
    · refine z_al0 eX11_found_15 ?_
      refine z_ga eX11_found_16 fX11_81 zs0 (t := 58) rfl ?_
      refine z_gi eX11_found_19 fX11_313 zs58 ?_
      refine z_ieq eX11_found_22 rfl (fun c22 => ?_) (fun c22 => ?_)
      · refine z_al0 eX11_found_41 ?_
        refine z_ki eX11_found_42 ?_
        refine zc_vi1 eX11_found_44 lX11_153 tX11_fail zs0 (by decide) (Nat.le_of_ble_eq_true rfl) (x_fail _ _) ?_
        rintro _ _ ⟨rfl, rfl⟩ -
        refine ze_i eX11_found_47 rfl ?_
        exact pX0_at ((if_pos (by omega)).trans (if_pos (by omega)))
      · refine z_il1 eX11_found_25 ?_
        refine z_ki eX11_found_26 ?_
        refine z_cne eX11_found_27 rfl (fun c27 => ?_) (fun c27 => ?_)
        · refine z_al0 eX11_found_48 ?_
          refine z_il1 eX11_found_49 ?_
          refine z_ine eX11_found_50 rfl (fun c50 => ?_) (fun c50 => ?_)
          · refine z_al0 eX11_found_63 ?_
            refine z_ga eX11_found_64 fX11_81 zs0 (t := 58) rfl ?_
            refine z_gi eX11_found_67 fX11_319 zs58 ?_
            refine zc_vi1 eX11_found_70 lX11_202 tX11_answer zs0 (by decide) (Nat.le_of_ble_eq_true rfl) (x_answer _ _) ?_
            rintro _ _ ⟨rfl, rfl⟩ -
            refine ze_i eX11_found_73 rfl ?_
            exact pX0_at (by rw [qFound, if_pos (by omega), if_neg (by omega), if_neg (by omega), f3 (by omega)])
          · refine z_al0 eX11_found_53 ?_
            refine z_ga eX11_found_54 fX11_81 zs0 (t := 58) rfl ?_
            refine z_gi eX11_found_57 fX11_316 zs58 ?_
            refine z_goto eX11_found_60 rfl ?_
            refine zc_vi1 eX11_found_70 lX11_202 tX11_answer zs0 (by decide) (Nat.le_of_ble_eq_true rfl) (x_answer _ _) ?_
            rintro _ _ ⟨rfl, rfl⟩ -
            refine ze_i eX11_found_73 rfl ?_
            exact pX0_at (by rw [qFound, if_pos (by omega), if_neg (by omega), if_pos (by omega), f2 (by omega)])
        · refine z_al0 eX11_found_30 ?_
          refine z_ga eX11_found_31 fX11_81 zs0 (t := 58) rfl ?_
          refine z_gi eX11_found_34 fX11_313 zs58 ?_
          refine z_ki eX11_found_37 ?_
          refine z_cne eX11_found_38 rfl (fun c38 => ?_) (fun c38 => ?_)
          · refine z_al0 eX11_found_48 ?_
            refine z_il1 eX11_found_49 ?_
            refine z_ine eX11_found_50 rfl (fun c50 => ?_) (fun c50 => ?_)
            · refine z_al0 eX11_found_63 ?_
              refine z_ga eX11_found_64 fX11_81 zs0 (t := 58) rfl ?_
              refine z_gi eX11_found_67 fX11_319 zs58 ?_
              refine zc_vi1 eX11_found_70 lX11_202 tX11_answer zs0 (by decide) (Nat.le_of_ble_eq_true rfl) (x_answer _ _) ?_
              rintro _ _ ⟨rfl, rfl⟩ -
              refine ze_i eX11_found_73 rfl ?_
              exact pX0_at (by rw [qFound, if_pos (by omega), if_neg (by omega), if_neg (by omega), f3 (by omega)])
            · refine z_al0 eX11_found_53 ?_
              refine z_ga eX11_found_54 fX11_81 zs0 (t := 58) rfl ?_
              refine z_gi eX11_found_57 fX11_316 zs58 ?_
              refine z_goto eX11_found_60 rfl ?_
              refine zc_vi1 eX11_found_70 lX11_202 tX11_answer zs0 (by decide) (Nat.le_of_ble_eq_true rfl) (x_answer _ _) ?_
              rintro _ _ ⟨rfl, rfl⟩ -
              refine ze_i eX11_found_73 rfl ?_
              exact pX0_at (by rw [qFound, if_pos (by omega), if_neg (by omega), if_pos (by omega), f2 (by omega)])
          · refine z_al0 eX11_found_41 ?_
            refine z_ki eX11_found_42 ?_
            refine zc_vi1 eX11_found_44 lX11_153 tX11_fail zs0 (by decide) (Nat.le_of_ble_eq_true rfl) (x_fail _ _) ?_
            rintro _ _ ⟨rfl, rfl⟩ -
            refine ze_i eX11_found_47 rfl ?_
            exact pX0_at ((if_pos (by omega)).trans (if_pos (by omega)))
    · refine z_al0 eX11_found_9 ?_
      refine z_ki eX11_found_10 ?_
      refine zc_vi1 eX11_found_11 lX11_153 tX11_fail zs0 (by decide) (Nat.le_of_ble_eq_true rfl) (x_fail _ _) ?_
      rintro _ _ ⟨rfl, rfl⟩ -
      refine ze_i eX11_found_14 rfl ?_
      exact pX0_at (if_neg (by omega))
theorem r_found (h : zHp) (x : Int) : zCi mX12_found 1 [zA 117, zI x] h (fun v h' => pM0 h (qFound h x) v h') := by
  refine z_enter [zA 117, zI x] (by decide +kernel) (Nat.le_of_ble_eq_true rfl) rfl (fun hra hrg => ?_)
  refine z_al0 eX12_found_0 ?_
  refine z_ki eX12_found_1 ?_
  refine z_pi eX12_found_2 pX12_98 zs117 ?_
  refine z_al0 eX12_found_5 ?_
  refine z_ki eX12_found_6 ?_
  refine z_pi eX12_found_7 pX12_101 zs117 ?_
  refine z_il1 eX12_found_10 ?_
  refine z_i2l eX12_found_11 ?_
  refine z_kj eX12_found_12 ?_
  refine z_kj eX12_found_13 ?_
  refine zc_si3 eX12_found_14 lX12_133 tX12_isIn (by decide) (Nat.le_of_ble_eq_true rfl) (r_isIn _ _ _ _) ?_
  rintro _ _ ⟨rfl, rfl⟩ -
  skip
  refine z_ine eX12_found_17 rfl (fun c17 => ?_) (fun c17 => ?_)
  · refine z_al0 eX12_found_26 ?_
    refine z_gi eX12_found_27 fX12_397 zs117 ?_
    simp only [zup_rd, eq_self, true_and, and_false, false_and, ↓reduceIte, Nat.reduceEqDiff]
    refine z_ieq eX12_found_30 rfl (fun c30 => ?_) (fun c30 => ?_)
    · refine z_al0 eX12_found_46 ?_
      refine z_ki eX12_found_47 ?_
      refine zc_vi1 eX12_found_49 lX12_275 tX12_refuse zs117 (by decide) (Nat.le_of_ble_eq_true rfl) (r_refuse _ _) ?_
      rintro _ _ ⟨rfl, rfl⟩ -
      refine ze_i eX12_found_52 rfl ?_
      have z : x = 0 ∨ x = 1 := by split at c17 <;> omega
      exact pM0_r ((if_pos z).trans (if_pos (by omega)))
    · refine z_il1 eX12_found_33 ?_
      refine z_ki eX12_found_34 ?_
      refine z_cne eX12_found_35 rfl (fun c35 => ?_) (fun c35 => ?_)
      · refine z_il1 eX12_found_53 ?_
        refine z_ine eX12_found_54 rfl (fun c54 => ?_) (fun c54 => ?_)
        · refine z_al0 eX12_found_64 ?_
          refine z_gi eX12_found_65 fX12_403 zs117 ?_
          refine ze_i eX12_found_68 rfl ?_
          have z : x = 0 ∨ x = 1 := by split at c17 <;> omega
          simp only [zup_rd, eq_self, true_and, and_false, false_and, ↓reduceIte, Nat.reduceEqDiff]
          exact pM0_0 (by rw [qFound, if_pos z, if_neg (by omega), if_neg (by omega)])
        · refine z_al0 eX12_found_57 ?_
          refine z_gi eX12_found_58 fX12_400 zs117 ?_
          refine z_goto eX12_found_61 rfl ?_
          refine ze_i eX12_found_68 rfl ?_
          have z : x = 0 ∨ x = 1 := by split at c17 <;> omega
          simp only [zup_rd, eq_self, true_and, and_false, false_and, ↓reduceIte, Nat.reduceEqDiff]
          exact pM0_0 (by rw [qFound, if_pos z, if_neg (by omega), if_pos (by omega)])
      · refine z_al0 eX12_found_38 ?_
        refine z_gi eX12_found_39 fX12_397 zs117 ?_
        refine z_ki eX12_found_42 ?_
        simp only [zup_rd, eq_self, true_and, and_false, false_and, ↓reduceIte, Nat.reduceEqDiff]
        refine z_cne eX12_found_43 rfl (fun c43 => ?_) (fun c43 => ?_)
        · refine z_il1 eX12_found_53 ?_
          refine z_ine eX12_found_54 rfl (fun c54 => ?_) (fun c54 => ?_)
          · refine z_al0 eX12_found_64 ?_
            refine z_gi eX12_found_65 fX12_403 zs117 ?_
            refine ze_i eX12_found_68 rfl ?_
            have z : x = 0 ∨ x = 1 := by split at c17 <;> omega
            simp only [zup_rd, eq_self, true_and, and_false, false_and, ↓reduceIte, Nat.reduceEqDiff]
            exact pM0_0 (by rw [qFound, if_pos z, if_neg (by omega), if_neg (by omega)])
          · refine z_al0 eX12_found_57 ?_
            refine z_gi eX12_found_58 fX12_400 zs117 ?_
            refine z_goto eX12_found_61 rfl ?_
            refine ze_i eX12_found_68 rfl ?_
            have z : x = 0 ∨ x = 1 := by split at c17 <;> omega
            simp only [zup_rd, eq_self, true_and, and_false, false_and, ↓reduceIte, Nat.reduceEqDiff]
            exact pM0_0 (by rw [qFound, if_pos z, if_neg (by omega), if_pos (by omega)])
        · refine z_al0 eX12_found_46 ?_
          refine z_ki eX12_found_47 ?_
          refine zc_vi1 eX12_found_49 lX12_275 tX12_refuse zs117 (by decide) (Nat.le_of_ble_eq_true rfl) (r_refuse _ _) ?_
          rintro _ _ ⟨rfl, rfl⟩ -
          refine ze_i eX12_found_52 rfl ?_
          have z : x = 0 ∨ x = 1 := by split at c17 <;> omega
          exact pM0_r ((if_pos z).trans (if_pos (by omega)))
  · refine z_al0 eX12_found_20 ?_
    refine z_ki eX12_found_21 ?_
    refine zc_vi1 eX12_found_22 lX12_275 tX12_refuse zs117 (by decide) (Nat.le_of_ble_eq_true rfl) (r_refuse _ _) ?_
    rintro _ _ ⟨rfl, rfl⟩ -
    refine ze_i eX12_found_25 rfl ?_
    exact pM0_r (if_neg (by split at c17 <;> omega))
