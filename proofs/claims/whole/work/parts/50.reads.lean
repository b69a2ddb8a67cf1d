-- calls that only tell (written by wip/tools/specR1.py)
/-- the class tells q = (answer, status), and leaves all but its status and scratch -/
def pX0 (h : zHp) (q : Int × Int) (v : Int) (h1 : zHp) : Prop := q.1 = v ∧ h1 0 0 = q.2 ∧ (∀ a : Nat, 117 ≤ a → h1 a = h a) ∧ zEx [] h h1
def pM0 (h : zHp) (q : Int × Int) (v : Int) (h1 : zHp) : Prop := q.1 = v ∧ h1 117 0 = q.2 ∧ (∀ a : Nat, a < 117 → h1 a = h a) ∧ zEx [] h h1
theorem pX0_st (h : zHp) (y v : Int) : pX0 h (v, y) v (zup h 0 0 y) := ⟨rfl, zup_at _ _ _ _, fun a ha => zup_off (by omega), zEx.rf.up (Or.inl rfl)⟩
theorem pX0_at {h : zHp} {q : Int × Int} {v y : Int} (h1 : q = (v, y)) : pX0 h q v (zup h 0 0 y) := h1 ▸ pX0_st h y v
/-- behind thrown = 0, status = 0 -/
theorem pM0_0 {h : zHp} {q : Int × Int} {v : Int} (h1 : q = (v, 0)) : pM0 h q v (zup (zup h 117 1 0) 117 0 0) := by
  subst h1
  exact ⟨rfl, zup_at _ _ _ _, fun a ha => by rw [zup_off (by omega), zup_off (by omega)], (zEx.rf.up (Or.inl rfl)).up (Or.inl rfl)⟩
theorem pM0_r {h : zHp} {q : Int × Int} {v y : Int} (h1 : q = (v, y)) : pM0 h q v (zup (zup (zup h 117 1 0) 117 0 0) 117 0 y) := by
  subst h1
  exact ⟨rfl, zup_at _ _ _ _, fun a ha => by rw [zup_off (by omega), zup_off (by omega), zup_off (by omega)], ((zEx.rf.up (Or.inl rfl)).up (Or.inl rfl)).up (Or.inl rfl)⟩
theorem Rel.tell {h h1 h2 : zHp} {q : Int × Int} {v v' : Int} (H : Rel h) (hx : pX0 h q v h1) (hm : pM0 h1 q v' h2) : v = v' ∧ Rel h2 ∧ h2 200 = h 200 ∧ h2 201 = h 201 ∧ (nB h → nB h2) := by
  obtain ⟨a1, a2, a3, a4⟩ := hx
  obtain ⟨b1, b2, b3, b4⟩ := hm
  refine ⟨by rw [← a1, ← b1], Rel.ex (a4.tr b4) (by rw [b3 0 (by omega), a2, b2]) H, ?_, ?_, nB_oc ((a4.tr b4) 10 (by omega) (by omega) (by simp))⟩
  · rw [oc_fn (b4 10 (by omega) (by omega) (by simp)) (fun i => rfl), a3 200 (by omega)]
  · rw [oc_fn (b4 10 (by omega) (by omega) (by simp)) (fun i => rfl), a3 201 (by omega)]
theorem h00_117 {h : zHp} {i : Nat} (h0 : ¬ i = 0) (h1 : ¬ i = 1) : zup (zup h 117 1 0) 117 0 0 117 i = h 117 i := by rw [zup_ne (by omega), zup_ne (by omega)]
theorem h00_off {h : zHp} {a : Nat} (h0 : ¬ a = 117) : zup (zup h 117 1 0) 117 0 0 a = h a := by rw [zup_off h0, zup_off h0]
def qFound (h : zHp) (x : Int) : Int × Int := if x = 0 ∨ x = 1 then (if h 117 52 = 0 ∨ (x = 1 ∧ h 117 52 = 2) then (-1, 8) else if x = 0 then (h 117 49, 0) else (h 117 50, 0)) else (-1, 5)
def qMoved (h : zHp) (x : Int) : Int × Int := if h 117 52 = 2 ∧ 0 ≤ x ∧ x < h 117 51 then (h 138 x.toNat, 0) else (-1, 8)
def qOpen (h : zHp) : Int × Int := if h 117 62 = 0 then (-1, 8) else (h 117 61, 0)
theorem x_found (h : zHp) (H : rFound h) (x : Int) : zCi mX11_found 1 [zA 0, zI x] h (fun v h' => pX0 h (qFound h x) v h') := by
  refine z_enter [zA 0, zI x] (by decide +kernel) (Nat.le_of_ble_eq_true rfl) rfl (fun hra hrg => ?_)
  obtain ⟨f0, f1, f2, f3, f4⟩ := H
  refine z_il1 eX11_found_0 ?_
  refine z_ieq eX11_found_1 rfl (fun c1 => ?_) (fun c1 => ?_)
  · refine z_al0 eX11_found_15 ?_
    refine z_ga eX11_found_16 fX11_81 zs0 (t := 58) rfl ?_
    refine z_gi eX11_found_19 fX11_313 zs58 ?_
    refine z_ieq eX11_found_22 rfl (fun c22 => ?_) (fun c22 => ?_)
    · refine z_al0 eX11_found_41 ?_
      refine z_ki eX11_found_42 ?_
      refine zc_vi1 eX11_found_44 lX11_153 tX11_fail zs0 (by decide) (Nat.le_of_ble_eq_true rfl) (x_fail _ _) ?_
      rintro _ _ ⟨rfl, rfl⟩ -
      refine ze_i eX11_found_47 rfl ?_
      exact pX0_at ((if_pos (by omega)).trans (if_pos (by omega)))
    · refine z_il1 eX11_found_25 ?_
      refine z_ki eX11_found_26 ?_
      refine z_cne eX11_found_27 rfl (fun c27 => ?_) (fun c27 => ?_)
      · refine z_al0 eX11_found_48 ?_
        refine z_il1 eX11_found_49 ?_
        refine z_ine eX11_found_50 rfl (fun c50 => ?_) (fun c50 => ?_)
        · refine z_al0 eX11_found_63 ?_
          refine z_ga eX11_found_64 fX11_81 zs0 (t := 58) rfl ?_
          refine z_gi eX11_found_67 fX11_319 zs58 ?_
          refine zc_vi1 eX11_found_70 lX11_202 tX11_answer zs0 (by decide) (Nat.le_of_ble_eq_true rfl) (x_answer _ _) ?_
          rintro _ _ ⟨rfl, rfl⟩ -
          refine ze_i eX11_found_73 rfl ?_
          exact pX0_at (by rw [qFound, if_pos (by omega), if_neg (by omega), if_neg (by omega), f3 (by omega)])
        · refine z_al0 eX11_found_53 ?_
          refine z_ga eX11_found_54 fX11_81 zs0 (t := 58) rfl ?_
          refine z_gi eX11_found_57 fX11_316 zs58 ?_
          refine z_goto eX11_found_60 rfl ?_
          refine zc_vi1 eX11_found_70 lX11_202 tX11_answer zs0 (by decide) (Nat.le_of_ble_eq_true rfl) (x_answer _ _) ?_
          rintro _ _ ⟨rfl, rfl⟩ -
          refine ze_i eX11_found_73 rfl ?_
          exact pX0_at (by rw [qFound, if_pos (by omega), if_neg (by omega), if_pos (by omega), f2 (by omega)])
      · refine z_al0 eX11_found_30 ?_
        refine z_ga eX11_found_31 fX11_81 zs0 (t := 58) rfl ?_
        refine z_gi eX11_found_34 fX11_313 zs58 ?_
        refine z_ki eX11_found_37 ?_
        refine z_cne eX11_found_38 rfl (fun c38 => ?_) (fun c38 => ?_)
        · refine z_al0 eX11_found_48 ?_
          refine z_il1 eX11_found_49 ?_
          refine z_ine eX11_found_50 rfl (fun c50 => ?_) (fun c50 => ?_)
          · refine z_al0 eX11_found_63 ?_
            refine z_ga eX11_found_64 fX11_81 zs0 (t := 58) rfl ?_
            refine z_gi eX11_found_67 fX11_319 zs58 ?_
            refine zc_vi1 eX11_found_70 lX11_202 tX11_answer zs0 (by decide) (Nat.le_of_ble_eq_true rfl) (x_answer _ _) ?_
            rintro _ _ ⟨rfl, rfl⟩ -
            refine ze_i eX11_found_73 rfl ?_
            exact pX0_at (by rw [qFound, if_pos (by omega), if_neg (by omega), if_neg (by omega), f3 (by omega)])
          · refine z_al0 eX11_found_53 ?_
            refine z_ga eX11_found_54 fX11_81 zs0 (t := 58) rfl ?_
            refine z_gi eX11_found_57 fX11_316 zs58 ?_
            refine z_goto eX11_found_60 rfl ?_
            refine zc_vi1 eX11_found_70 lX11_202 tX11_answer zs0 (by decide) (Nat.le_of_ble_eq_true rfl) (x_answer _ _) ?_
            rintro _ _ ⟨rfl, rfl⟩ -
            refine ze_i eX11_found_73 rfl ?_
            exact pX0_at (by rw [qFound, if_pos (by omega), if_neg (by omega), if_pos (by omega), f2 (by omega)])
        · refine z_al0 eX11_found_41 ?_
          refine z_ki eX11_found_42 ?_
          refine zc_vi1 eX11_found_44 lX11_153 tX11_fail zs0 (by decide) (Nat.le_of_ble_eq_true rfl) (x_fail _ _) ?_
          rintro _ _ ⟨rfl, rfl⟩ -
          refine ze_i eX11_found_47 rfl ?_
          exact pX0_at ((if_pos (by omega)).trans (if_pos (by omega)))
  · refine z_il1 eX11_found_4 ?_
    refine z_ki eX11_found_5 ?_
    refine z_ceq eX11_found_6 rfl (fun c6 => ?_) (fun c6 => ?_)
    · refine z_al0 eX11_found_15 ?_
      refine z_ga eX11_found_16 fX11_81 zs0 (t := 58) rfl ?_
      refine z_gi eX11_found_19 fX11_313 zs58 ?_
      refine z_ieq eX11_found_22 rfl (fun c22 => ?_) (fun c22 => ?_)
      · refine z_al0 eX11_found_41 ?_
        refine z_ki eX11_found_42 ?_
        refine zc_vi1 eX11_found_44 lX11_153 tX11_fail zs0 (by decide) (Nat.le_of_ble_eq_true rfl) (x_fail _ _) ?_
        rintro _ _ ⟨rfl, rfl⟩ -
        refine ze_i eX11_found_47 rfl ?_
        exact pX0_at ((if_pos (by omega)).trans (if_pos (by omega)))
      · refine z_il1 eX11_found_25 ?_
        refine z_ki eX11_found_26 ?_
        refine z_cne eX11_found_27 rfl (fun c27 => ?_) (fun c27 => ?_)
        · refine z_al0 eX11_found_48 ?_
          refine z_il1 eX11_found_49 ?_
          refine z_ine eX11_found_50 rfl (fun c50 => ?_) (fun c50 => ?_)
          · refine z_al0 eX11_found_63 ?_
            refine z_ga eX11_found_64 fX11_81 zs0 (t := 58) rfl ?_
            refine z_gi eX11_found_67 fX11_319 zs58 ?_
            refine zc_vi1 eX11_found_70 lX11_202 tX11_answer zs0 (by decide) (Nat.le_of_ble_eq_true rfl) (x_answer _ _) ?_
            rintro _ _ ⟨rfl, rfl⟩ -
            refine ze_i eX11_found_73 rfl ?_
            exact pX0_at (by rw [qFound, if_pos (by omega), if_neg (by omega), if_neg (by omega), f3 (by omega)])
          · refine z_al0 eX11_found_53 ?_
            refine z_ga eX11_found_54 fX11_81 zs0 (t := 58) rfl ?_
            refine z_gi eX11_found_57 fX11_316 zs58 ?_
            refine z_goto eX11_found_60 rfl ?_
            refine zc_vi1 eX11_found_70 lX11_202 tX11_answer zs0 (by decide) (Nat.le_of_ble_eq_true rfl) (x_answer _ _) ?_
            rintro _ _ ⟨rfl, rfl⟩ -
            refine ze_i eX11_found_73 rfl ?_
            exact pX0_at (by rw [qFound, if_pos (by omega), if_neg (by omega), if_pos (by omega), f2 (by omega)])
        · refine z_al0 eX11_found_30 ?_
          refine z_ga eX11_found_31 fX11_81 zs0 (t := 58) rfl ?_
          refine z_gi eX11_found_34 fX11_313 zs58 ?_
          refine z_ki eX11_found_37 ?_
          refine z_cne eX11_found_38 rfl (fun c38 => ?_) (fun c38 => ?_)
          · refine z_al0 eX11_found_48 ?_
            refine z_il1 eX11_found_49 ?_
            refine z_ine eX11_found_50 rfl (fun c50 => ?_) (fun c50 => ?_)
            · refine z_al0 eX11_found_63 ?_
              refine z_ga eX11_found_64 fX11_81 zs0 (t := 58) rfl ?_
              refine z_gi eX11_found_67 fX11_319 zs58 ?_
              refine zc_vi1 eX11_found_70 lX11_202 tX11_answer zs0 (by decide) (Nat.le_of_ble_eq_true rfl) (x_answer _ _) ?_
              rintro _ _ ⟨rfl, rfl⟩ -
              refine ze_i eX11_found_73 rfl ?_
              exact pX0_at (by rw [qFound, if_pos (by omega), if_neg (by omega), if_neg (by omega), f3 (by omega)])
            · refine z_al0 eX11_found_53 ?_
              refine z_ga eX11_found_54 fX11_81 zs0 (t := 58) rfl ?_
              refine z_gi eX11_found_57 fX11_316 zs58 ?_
              refine z_goto eX11_found_60 rfl ?_
              refine zc_vi1 eX11_found_70 lX11_202 tX11_answer zs0 (by decide) (Nat.le_of_ble_eq_true rfl) (x_answer _ _) ?_
              rintro _ _ ⟨rfl, rfl⟩ -
              refine ze_i eX11_found_73 rfl ?_
              exact pX0_at (by rw [qFound, if_pos (by omega), if_neg (by omega), if_pos (by omega), f2 (by omega)])
          · refine z_al0 eX11_found_41 ?_
            refine z_ki eX11_found_42 ?_
            refine zc_vi1 eX11_found_44 lX11_153 tX11_fail zs0 (by decide) (Nat.le_of_ble_eq_true rfl) (x_fail _ _) ?_
            rintro _ _ ⟨rfl, rfl⟩ -
            refine ze_i eX11_found_47 rfl ?_
            exact pX0_at ((if_pos (by omega)).trans (if_pos (by omega)))
    · refine z_al0 eX11_found_9 ?_
      refine z_ki eX11_found_10 ?_
      refine zc_vi1 eX11_found_11 lX11_153 tX11_fail zs0 (by decide) (Nat.le_of_ble_eq_true rfl) (x_fail _ _) ?_
      rintro _ _ ⟨rfl, rfl⟩ -
      refine ze_i eX11_found_14 rfl ?_
      exact pX0_at (if_neg (by omega))
theorem r_found (h : zHp) (x : Int) : zCi mX12_found 1 [zA 117, zI x] h (fun v h' => pM0 h (qFound h x) v h') := by
  refine z_enter [zA 117, zI x] (by decide +kernel) (Nat.le_of_ble_eq_true rfl) rfl (fun hra hrg => ?_)
  refine z_al0 eX12_found_0 ?_
  refine z_ki eX12_found_1 ?_
  refine z_pi eX12_found_2 pX12_98 zs117 ?_
  refine z_al0 eX12_found_5 ?_
  refine z_ki eX12_found_6 ?_
  refine z_pi eX12_found_7 pX12_101 zs117 ?_
  refine z_il1 eX12_found_10 ?_
  refine z_i2l eX12_found_11 ?_
  refine z_kj eX12_found_12 ?_
  refine z_kj eX12_found_13 ?_
  refine zc_si3 eX12_found_14 lX12_133 tX12_isIn (by decide) (Nat.le_of_ble_eq_true rfl) (r_isIn _ _ _ _) ?_
  rintro _ _ ⟨rfl, rfl⟩ -
  skip
  refine z_ine eX12_found_17 rfl (fun c17 => ?_) (fun c17 => ?_)
  · refine z_al0 eX12_found_26 ?_
    refine z_gi eX12_found_27 fX12_397 zs117 ?_
    simp only [zup_rd, eq_self, true_and, and_false, false_and, ↓reduceIte, Nat.reduceEqDiff]
    refine z_ieq eX12_found_30 rfl (fun c30 => ?_) (fun c30 => ?_)
    · refine z_al0 eX12_found_46 ?_
      refine z_ki eX12_found_47 ?_
      refine zc_vi1 eX12_found_49 lX12_275 tX12_refuse zs117 (by decide) (Nat.le_of_ble_eq_true rfl) (r_refuse _ _) ?_
      rintro _ _ ⟨rfl, rfl⟩ -
      refine ze_i eX12_found_52 rfl ?_
      have z : x = 0 ∨ x = 1 := by split at c17 <;> omega
      exact pM0_r ((if_pos z).trans (if_pos (by omega)))
    · refine z_il1 eX12_found_33 ?_
      refine z_ki eX12_found_34 ?_
      refine z_cne eX12_found_35 rfl (fun c35 => ?_) (fun c35 => ?_)
      · refine z_il1 eX12_found_53 ?_
        refine z_ine eX12_found_54 rfl (fun c54 => ?_) (fun c54 => ?_)
        · refine z_al0 eX12_found_64 ?_
          refine z_gi eX12_found_65 fX12_403 zs117 ?_
          refine ze_i eX12_found_68 rfl ?_
          have z : x = 0 ∨ x = 1 := by split at c17 <;> omega
          simp only [zup_rd, eq_self, true_and, and_false, false_and, ↓reduceIte, Nat.reduceEqDiff]
          exact pM0_0 (by rw [qFound, if_pos z, if_neg (by omega), if_neg (by omega)])
        · refine z_al0 eX12_found_57 ?_
          refine z_gi eX12_found_58 fX12_400 zs117 ?_
          refine z_goto eX12_found_61 rfl ?_
          refine ze_i eX12_found_68 rfl ?_
          have z : x = 0 ∨ x = 1 := by split at c17 <;> omega
          simp only [zup_rd, eq_self, true_and, and_false, false_and, ↓reduceIte, Nat.reduceEqDiff]
          exact pM0_0 (by rw [qFound, if_pos z, if_neg (by omega), if_pos (by omega)])
      · refine z_al0 eX12_found_38 ?_
        refine z_gi eX12_found_39 fX12_397 zs117 ?_
        refine z_ki eX12_found_42 ?_
        simp only [zup_rd, eq_self, true_and, and_false, false_and, ↓reduceIte, Nat.reduceEqDiff]
        refine z_cne eX12_found_43 rfl (fun c43 => ?_) (fun c43 => ?_)
        · refine z_il1 eX12_found_53 ?_
          refine z_ine eX12_found_54 rfl (fun c54 => ?_) (fun c54 => ?_)
          · refine z_al0 eX12_found_64 ?_
            refine z_gi eX12_found_65 fX12_403 zs117 ?_
            refine ze_i eX12_found_68 rfl ?_
            have z : x = 0 ∨ x = 1 := by split at c17 <;> omega
            simp only [zup_rd, eq_self, true_and, and_false, false_and, ↓reduceIte, Nat.reduceEqDiff]
            exact pM0_0 (by rw [qFound, if_pos z, if_neg (by omega), if_neg (by omega)])
          · refine z_al0 eX12_found_57 ?_
            refine z_gi eX12_found_58 fX12_400 zs117 ?_
            refine z_goto eX12_found_61 rfl ?_
            refine ze_i eX12_found_68 rfl ?_
            have z : x = 0 ∨ x = 1 := by split at c17 <;> omega
            simp only [zup_rd, eq_self, true_and, and_false, false_and, ↓reduceIte, Nat.reduceEqDiff]
            exact pM0_0 (by rw [qFound, if_pos z, if_neg (by omega), if_pos (by omega)])
        · refine z_al0 eX12_found_46 ?_
          refine z_ki eX12_found_47 ?_
          refine zc_vi1 eX12_found_49 lX12_275 tX12_refuse zs117 (by decide) (Nat.le_of_ble_eq_true rfl) (r_refuse _ _) ?_
          rintro _ _ ⟨rfl, rfl⟩ -
          refine ze_i eX12_found_52 rfl ?_
          have z : x = 0 ∨ x = 1 := by split at c17 <;> omega
          exact pM0_r ((if_pos z).trans (if_pos (by omega)))
  · refine z_al0 eX12_found_20 ?_
    refine z_ki eX12_found_21 ?_
    refine zc_vi1 eX12_found_22 lX12_275 tX12_refuse zs117 (by decide) (Nat.le_of_ble_eq_true rfl) (r_refuse _ _) ?_
    rintro _ _ ⟨rfl, rfl⟩ -
    refine ze_i eX12_found_25 rfl ?_
    exact pM0_r (if_neg (by split at c17 <;> omega))
theorem pX0_rf {h : zHp} {q : Int × Int} {v : Int} (h1 : q = (v, h 0 0)) : pX0 h q v h := by subst h1; exact ⟨rfl, rfl, fun a ha => rfl, zEx.rf⟩
theorem pM0_t {h : zHp} {q : Int × Int} {v : Int} (h1 : q = (v, h 117 0)) : pM0 h q v (zup h 117 1 0) := by
  subst h1
  exact ⟨rfl, zup_ne (by omega), fun a ha => zup_off (by omega), zEx.rf.up (Or.inl rfl)⟩
def qFault (h : zHp) (x : Int) : Int × Int := ((if x = 0 then h 117 10 else if x = 1 then h 117 11 else -1), h 117 0)
def qActed (h : zHp) (x : Int) : Int × Int := if 0 ≤ x ∧ x ≤ 3 then (if h 117 35 = 0 then (-1, 8) else if x = 0 then (h 117 30, 0) else if x = 1 then (h 117 31, 0) else if x = 2 then (h 117 32, 0) else (h 117 29, 0)) else (-1, 5)
def qMany (D : Nat → Int) (x : Int) : Int × Int := if x = 0 then (D 0, 0) else if x = 1 then (D 1, 0) else if x = 2 then (allV D, 0) else if x = 3 then (D 240, 0) else if x = 4 then (D 2, 0) else (-1, 5)
def qName (D : Nat → Int) (k x : Int) : Int × Int := if 0 ≤ k ∧ k < D 0 then (if x = 0 then (bv (D 2).toNat k.toNat, 0) else if x = 1 then (D (3 + k.toNat), 0) else if x = 2 then (D (11 + k.toNat), 0) else (-1, 5)) else (-1, 2)
def qSort (D : Nat → Int) (s x : Int) : Int × Int := if 0 ≤ s ∧ s < D 1 then (if x = 0 then (D (20 + s.toNat), 0) else if x = 1 then (D (40 + s.toNat), 0) else if x = 2 then (D (60 + s.toNat), 0) else (-1, 5)) else (-1, 2)
def qOrder (D : Nat → Int) (s k : Int) : Int × Int := if 0 ≤ s ∧ s < D 1 then (if 0 ≤ k ∧ k < D 0 then (D (80 + 8 * s.toNat + k.toNat), 0) else (-1, 5)) else (-1, 2)
theorem x_moved (h : zHp) (H : rFound h) (x : Int) : zCi mX11_moved 1 [zA 0, zI x] h (fun v h' => pX0 h (qMoved h x) v h') := by
  refine z_enter [zA 0, zI x] (by decide +kernel) (Nat.le_of_ble_eq_true rfl) rfl (fun hra hrg => ?_)
  obtain ⟨f0, f1, f2, f3, f4⟩ := H
  refine z_al0 eX11_moved_0 ?_
  refine z_ga eX11_moved_1 fX11_81 zs0 (t := 58) rfl ?_
  refine z_gi eX11_moved_4 fX11_313 zs58 ?_
  refine z_ki eX11_moved_7 ?_
  refine z_cne eX11_moved_8 rfl (fun c8 => ?_) (fun c8 => ?_)
  · refine z_al0 eX11_moved_26 ?_
    refine z_ki eX11_moved_27 ?_
    refine zc_vi1 eX11_moved_29 lX11_153 tX11_fail zs0 (by decide) (Nat.le_of_ble_eq_true rfl) (x_fail _ _) ?_
    rintro _ _ ⟨rfl, rfl⟩ -
    refine ze_i eX11_moved_32 rfl ?_
    exact pX0_at (if_neg (fun z => by have := f4 z.1; omega))
  · refine z_il1 eX11_moved_11 ?_
    refine z_ilt eX11_moved_12 rfl (fun c12 => ?_) (fun c12 => ?_)
    · refine z_al0 eX11_moved_26 ?_
      refine z_ki eX11_moved_27 ?_
      refine zc_vi1 eX11_moved_29 lX11_153 tX11_fail zs0 (by decide) (Nat.le_of_ble_eq_true rfl) (x_fail _ _) ?_
      rintro _ _ ⟨rfl, rfl⟩ -
      refine ze_i eX11_moved_32 rfl ?_
      exact pX0_at (if_neg (fun z => by have := f4 z.1; omega))
    · refine z_il1 eX11_moved_15 ?_
      refine z_al0 eX11_moved_16 ?_
      refine z_ga eX11_moved_17 fX11_81 zs0 (t := 58) rfl ?_
      refine z_gi eX11_moved_20 fX11_322 zs58 ?_
      refine z_clt eX11_moved_23 rfl (fun c23 => ?_) (fun c23 => ?_)
      · have z4 := f4 (by omega)
        refine z_al0 eX11_moved_33 ?_
        refine z_al0 eX11_moved_34 ?_
        refine z_ga eX11_moved_35 fX11_81 zs0 (t := 58) rfl ?_
        refine z_ga eX11_moved_38 fX11_323 zs58 (t := 59) rfl ?_
        refine z_il1 eX11_moved_41 ?_
        refine zr_iN eX11_moved_42 zs59 (j := x.toNat) (by omega) (by omega) ?_
        refine zc_vi1 eX11_moved_43 lX11_202 tX11_answer zs0 (by decide) (Nat.le_of_ble_eq_true rfl) (x_answer _ _) ?_
        rintro _ _ ⟨rfl, rfl⟩ -
        refine ze_i eX11_moved_46 rfl ?_
        exact pX0_at (by rw [qMoved, if_pos (by omega), z4.2.2.2 x.toNat (by omega)])
      · refine z_al0 eX11_moved_26 ?_
        refine z_ki eX11_moved_27 ?_
        refine zc_vi1 eX11_moved_29 lX11_153 tX11_fail zs0 (by decide) (Nat.le_of_ble_eq_true rfl) (x_fail _ _) ?_
        rintro _ _ ⟨rfl, rfl⟩ -
        refine ze_i eX11_moved_32 rfl ?_
        exact pX0_at (if_neg (fun z => by have := f4 z.1; omega))
theorem r_moved (h : zHp) (H : rFound h) (x : Int) : zCi mX12_moved 1 [zA 117, zI x] h (fun v h' => pM0 h (qMoved h x) v h') := by
  refine z_enter [zA 117, zI x] (by decide +kernel) (Nat.le_of_ble_eq_true rfl) rfl (fun hra hrg => ?_)
  obtain ⟨f0, f1, f2, f3, f4⟩ := H
  refine z_al0 eX12_moved_0 ?_
  refine z_ki eX12_moved_1 ?_
  refine z_pi eX12_moved_2 pX12_98 zs117 ?_
  refine z_al0 eX12_moved_5 ?_
  refine z_ki eX12_moved_6 ?_
  refine z_pi eX12_moved_7 pX12_101 zs117 ?_
  refine z_al0 eX12_moved_10 ?_
  refine z_gi eX12_moved_11 fX12_397 zs117 ?_
  simp only [zup_rd, eq_self, true_and, and_false, false_and, ↓reduceIte, Nat.reduceEqDiff]
  refine z_ki eX12_moved_14 ?_
  refine z_cne eX12_moved_15 rfl (fun c15 => ?_) (fun c15 => ?_)
  · refine z_al0 eX12_moved_43 ?_
    refine z_ki eX12_moved_44 ?_
    refine zc_vi1 eX12_moved_46 lX12_275 tX12_refuse zs117 (by decide) (Nat.le_of_ble_eq_true rfl) (r_refuse _ _) ?_
    rintro _ _ ⟨rfl, rfl⟩ -
    refine ze_i eX12_moved_49 rfl ?_
    exact pM0_r (if_neg (by omega))
  · refine z_il1 eX12_moved_18 ?_
    refine z_i2l eX12_moved_19 ?_
    refine z_kj eX12_moved_20 ?_
    refine z_al0 eX12_moved_21 ?_
    refine z_gi eX12_moved_22 fX12_414 zs117 ?_
    simp only [zup_rd, eq_self, true_and, and_false, false_and, ↓reduceIte, Nat.reduceEqDiff]
    have z4 := f4 (by omega)
    refine z_ki eX12_moved_25 ?_
    refine z_isubN eX12_moved_26 (by omega) (by omega) ?_
    refine z_i2l eX12_moved_27 ?_
    refine zc_si3 eX12_moved_28 lX12_133 tX12_isIn (by decide) (Nat.le_of_ble_eq_true rfl) (r_isIn _ _ _ _) ?_
    rintro _ _ ⟨rfl, rfl⟩ -
    refine z_ieq eX12_moved_31 rfl (fun c31 => ?_) (fun c31 => ?_)
    · refine z_al0 eX12_moved_43 ?_
      refine z_ki eX12_moved_44 ?_
      refine zc_vi1 eX12_moved_46 lX12_275 tX12_refuse zs117 (by decide) (Nat.le_of_ble_eq_true rfl) (r_refuse _ _) ?_
      rintro _ _ ⟨rfl, rfl⟩ -
      refine ze_i eX12_moved_49 rfl ?_
      exact pM0_r (if_neg (by split at c31 <;> omega))
    · refine z_al0 eX12_moved_34 ?_
      refine z_ga eX12_moved_35 fX12_83 zs117 (t := 138) rfl ?_
      refine z_il1 eX12_moved_38 ?_
      refine zr_iN eX12_moved_39 zs138 (j := x.toNat) (by split at c31 <;> omega) (by split at c31 <;> omega) ?_
      refine z_goto eX12_moved_40 rfl ?_
      refine ze_i eX12_moved_49 rfl ?_
      rw [zup_off (by decide), zup_off (by decide)]
      exact pM0_0 (if_pos (by split at c31 <;> omega))
theorem x_opening (h : zHp) (H : rOpen h) (hz : h 117 62 = 0 ∨ h 117 62 = 1) : zCi mX11_opening 1 [zA 0] h (fun v h' => pX0 h (qOpen h) v h') := by
  refine z_enter [zA 0] (by decide +kernel) (Nat.le_of_ble_eq_true rfl) rfl (fun hra hrg => ?_)
  refine z_al0 eX11_opening_0 ?_
  refine z_ga eX11_opening_1 fX11_88 zs0 (t := 60) rfl ?_
  refine z_gi eX11_opening_4 fX11_342 zs60 ?_
  refine z_ieq eX11_opening_7 rfl (fun c7 => ?_) (fun c7 => ?_)
  · refine z_al0 eX11_opening_24 ?_
    refine z_ki eX11_opening_25 ?_
    refine zc_vi1 eX11_opening_27 lX11_153 tX11_fail zs0 (by decide) (Nat.le_of_ble_eq_true rfl) (x_fail _ _) ?_
    rintro _ _ ⟨rfl, rfl⟩ -
    refine ze_i eX11_opening_30 rfl ?_
    exact pX0_at (if_pos (by have := H.1; omega))
  · refine z_al0 eX11_opening_10 ?_
    refine z_al0 eX11_opening_11 ?_
    refine z_ga eX11_opening_12 fX11_88 zs0 (t := 60) rfl ?_
    refine z_gi eX11_opening_15 fX11_345 zs60 ?_
    refine zc_vi1 eX11_opening_18 lX11_202 tX11_answer zs0 (by decide) (Nat.le_of_ble_eq_true rfl) (x_answer _ _) ?_
    rintro _ _ ⟨rfl, rfl⟩ -
    refine z_goto eX11_opening_21 rfl ?_
    refine ze_i eX11_opening_30 rfl ?_
    exact pX0_at (by have := H.1; rw [qOpen, if_neg (by omega), H.2 (by omega)])
theorem r_opening (h : zHp) : zCi mX12_opening 1 [zA 117] h (fun v h' => pM0 h (qOpen h) v h') := by
  refine z_enter [zA 117] (by decide +kernel) (Nat.le_of_ble_eq_true rfl) rfl (fun hra hrg => ?_)
  refine z_al0 eX12_opening_0 ?_
  refine z_ki eX12_opening_1 ?_
  refine z_pi eX12_opening_2 pX12_98 zs117 ?_
  refine z_al0 eX12_opening_5 ?_
  refine z_ki eX12_opening_6 ?_
  refine z_pi eX12_opening_7 pX12_101 zs117 ?_
  refine z_al0 eX12_opening_10 ?_
  refine z_gi eX12_opening_11 fX12_438 zs117 ?_
  simp only [zup_rd, eq_self, true_and, and_false, false_and, ↓reduceIte, Nat.reduceEqDiff]
  refine z_ieq eX12_opening_14 rfl (fun c14 => ?_) (fun c14 => ?_)
  · refine z_al0 eX12_opening_24 ?_
    refine z_ki eX12_opening_25 ?_
    refine zc_vi1 eX12_opening_27 lX12_275 tX12_refuse zs117 (by decide) (Nat.le_of_ble_eq_true rfl) (r_refuse _ _) ?_
    rintro _ _ ⟨rfl, rfl⟩ -
    refine ze_i eX12_opening_30 rfl ?_
    exact pM0_r (if_pos c14)
  · refine z_al0 eX12_opening_17 ?_
    refine z_gi eX12_opening_18 fX12_86 zs117 ?_
    refine z_goto eX12_opening_21 rfl ?_
    refine ze_i eX12_opening_30 rfl ?_
    simp only [zup_rd, eq_self, true_and, and_false, false_and, ↓reduceIte, Nat.reduceEqDiff]
    exact pM0_0 (if_neg c14)
theorem x_fault (h : zHp) (H : rTape h) (hs : h 0 0 = h 117 0) (x : Int) : zCi mX11_fault 0 [zA 0, zI x] h (fun v h' => pX0 h (qFault h x) v h') := by
  refine z_enter [zA 0, zI x] (by decide +kernel) (Nat.le_of_ble_eq_true rfl) rfl (fun hra hrg => ?_)
  obtain ⟨-, -, -, -, t8, t9⟩ := H
  refine z_il1 eX11_fault_0 ?_
  refine z_ine eX11_fault_1 rfl (fun c1 => ?_) (fun c1 => ?_)
  · refine z_il1 eX11_fault_12 ?_
    refine z_ki eX11_fault_13 ?_
    refine z_cne eX11_fault_14 rfl (fun c14 => ?_) (fun c14 => ?_)
    · refine z_ki eX11_fault_27 ?_
      refine ze_i eX11_fault_28 rfl ?_
      exact pX0_rf (by rw [qFault, if_neg c1, if_neg c14, hs])
    · refine z_al0 eX11_fault_17 ?_
      refine z_ga eX11_fault_18 fX11_18 zs0 (t := 2) rfl ?_
      refine z_gi eX11_fault_21 fX11_215 zs2 ?_
      refine z_goto eX11_fault_24 rfl ?_
      refine ze_i eX11_fault_28 rfl ?_
      exact pX0_rf (by rw [qFault, if_neg c1, if_pos c14, t9, hs])
  · refine z_al0 eX11_fault_4 ?_
    refine z_ga eX11_fault_5 fX11_18 zs0 (t := 2) rfl ?_
    refine z_gi eX11_fault_8 fX11_212 zs2 ?_
    refine ze_i eX11_fault_11 rfl ?_
    exact pX0_rf (by rw [qFault, if_pos c1, t8, hs])
theorem r_fault (h : zHp) (x : Int) : zCi mX12_fault 0 [zA 117, zI x] h (fun v h' => pM0 h (qFault h x) v h') := by
  refine z_enter [zA 117, zI x] (by decide +kernel) (Nat.le_of_ble_eq_true rfl) rfl (fun hra hrg => ?_)
  refine z_al0 eX12_fault_0 ?_
  refine z_ki eX12_fault_1 ?_
  refine z_pi eX12_fault_2 pX12_98 zs117 ?_
  refine z_il1 eX12_fault_5 ?_
  refine z_ine eX12_fault_6 rfl (fun c6 => ?_) (fun c6 => ?_)
  · refine z_il1 eX12_fault_16 ?_
    refine z_ki eX12_fault_17 ?_
    refine z_cne eX12_fault_18 rfl (fun c18 => ?_) (fun c18 => ?_)
    · refine z_ki eX12_fault_28 ?_
      refine ze_i eX12_fault_29 rfl ?_
      exact pM0_t (by rw [qFault, if_neg c6, if_neg c18])
    · refine z_al0 eX12_fault_21 ?_
      refine z_gi eX12_fault_22 fX12_32 zs117 ?_
      refine z_goto eX12_fault_25 rfl ?_
      refine ze_i eX12_fault_29 rfl ?_
      simp only [zup_rd, eq_self, true_and, and_false, false_and, ↓reduceIte, Nat.reduceEqDiff]
      exact pM0_t (by rw [qFault, if_neg c6, if_pos c18])
  · refine z_al0 eX12_fault_9 ?_
    refine z_gi eX12_fault_10 fX12_28 zs117 ?_
    refine z_goto eX12_fault_13 rfl ?_
    refine ze_i eX12_fault_29 rfl ?_
    simp only [zup_rd, eq_self, true_and, and_false, false_and, ↓reduceIte, Nat.reduceEqDiff]
    exact pM0_t (by rw [qFault, if_pos c6])
theorem x_status (h : zHp) (hs : h 0 0 = h 117 0) : zCi mX11_status 0 [zA 0] h (fun v h' => pX0 h (h 117 0, h 117 0) v h') := by
  refine z_enter [zA 0] (by decide +kernel) (Nat.le_of_ble_eq_true rfl) rfl (fun hra hrg => ?_)
  refine z_al0 eX11_status_0 ?_
  refine z_gi eX11_status_1 fX11_109 zs0 ?_
  refine ze_i eX11_status_4 rfl ?_
  exact pX0_rf (by rw [hs])
theorem r_status (h : zHp) : zCi mX12_status 0 [zA 117] h (fun v h' => pM0 h (h 117 0, h 117 0) v h') := by
  refine z_enter [zA 117] (by decide +kernel) (Nat.le_of_ble_eq_true rfl) rfl (fun hra hrg => ?_)
  refine z_al0 eX12_status_0 ?_
  refine z_ki eX12_status_1 ?_
  refine z_pi eX12_status_2 pX12_98 zs117 ?_
  refine z_al0 eX12_status_5 ?_
  refine z_gi eX12_status_6 fX12_101 zs117 ?_
  refine ze_i eX12_status_9 rfl ?_
  simp only [zup_rd, eq_self, true_and, and_false, false_and, ↓reduceIte, Nat.reduceEqDiff]
  exact pM0_t rfl
theorem x_top (h : zHp) (H : rFrac h) (hs : h 0 0 = h 117 0) : zCj mX11_top 0 [zA 0] h (fun v h' => pX0 h (h 117 2, h 117 0) v h') := by
  refine z_enter [zA 0] (by decide +kernel) (Nat.le_of_ble_eq_true rfl) rfl (fun hra hrg => ?_)
  refine z_al0 eX11_top_0 ?_
  refine z_ga eX11_top_1 fX11_95 zs0 (t := 63) rfl ?_
  refine z_gj eX11_top_4 fX11_113 zs63 ?_
  refine ze_j eX11_top_7 rfl ?_
  exact pX0_rf (by rw [hs, H.1])
theorem r_top (h : zHp) : zCj mX12_top 0 [zA 117] h (fun v h' => pM0 h (h 117 2, h 117 0) v h') := by
  refine z_enter [zA 117] (by decide +kernel) (Nat.le_of_ble_eq_true rfl) rfl (fun hra hrg => ?_)
  refine z_al0 eX12_top_0 ?_
  refine z_ki eX12_top_1 ?_
  refine z_pi eX12_top_2 pX12_98 zs117 ?_
  refine z_al0 eX12_top_5 ?_
  refine z_gj eX12_top_6 fX12_104 zs117 ?_
  refine ze_j eX12_top_9 rfl ?_
  simp only [zup_rd, eq_self, true_and, and_false, false_and, ↓reduceIte, Nat.reduceEqDiff]
  exact pM0_t rfl
theorem x_bottom (h : zHp) (H : rFrac h) (hs : h 0 0 = h 117 0) : zCj mX11_bottom 0 [zA 0] h (fun v h' => pX0 h (h 117 3, h 117 0) v h') := by
  refine z_enter [zA 0] (by decide +kernel) (Nat.le_of_ble_eq_true rfl) rfl (fun hra hrg => ?_)
  refine z_al0 eX11_bottom_0 ?_
  refine z_ga eX11_bottom_1 fX11_95 zs0 (t := 63) rfl ?_
  refine z_gj eX11_bottom_4 fX11_117 zs63 ?_
  refine ze_j eX11_bottom_7 rfl ?_
  exact pX0_rf (by rw [hs, H.2])
theorem r_bottom (h : zHp) : zCj mX12_bottom 0 [zA 117] h (fun v h' => pM0 h (h 117 3, h 117 0) v h') := by
  refine z_enter [zA 117] (by decide +kernel) (Nat.le_of_ble_eq_true rfl) rfl (fun hra hrg => ?_)
  refine z_al0 eX12_bottom_0 ?_
  refine z_ki eX12_bottom_1 ?_
  refine z_pi eX12_bottom_2 pX12_98 zs117 ?_
  refine z_al0 eX12_bottom_5 ?_
  refine z_gj eX12_bottom_6 fX12_7 zs117 ?_
  refine ze_j eX12_bottom_9 rfl ?_
  simp only [zup_rd, eq_self, true_and, and_false, false_and, ↓reduceIte, Nat.reduceEqDiff]
  exact pM0_t rfl
