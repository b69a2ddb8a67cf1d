-- the next piece of a text, class and reference (written by wip/tools/specY3.py)
theorem x_tw_l (h : zHp) (B : Nat → Int) (L : Nat) (hB : xB h B L) (a : Nat) : ∀ (r n : Nat) (g : zHp), a + n + r = L → xFr h g → g 2 3 = ((a + n : Nat) : Int) → g 2 5 = (a : Int) → g 2 4 = 1 → (n ≤ 8 → g 2 7 = wdF B a n) → (∀ i : Nat, a ≤ i → i < a + n → 97 ≤ B i ∧ B i ≤ 122) → zRW mX9_takeWord 1 (0, 0) 5 [zA 2] [] 143 g (zqv (fun h' => xFr h h' ∧ h' 2 4 = 1 ∧ h' 2 5 = (a : Int) ∧ h' 2 3 = (ltF B r (a + n) : Int) ∧ h' 2 7 = (if ltF B r (a + n) - a ≤ 8 then wdF B a (ltF B r (a + n) - a) else 0))) := by
  intro r
  induction r using Nat.strongRecOn with
  | ind r ih =>
    intro n g hk F e3 e5 e4 e7 hl
    have gL : g 2 2 = (L : Int) := F.2.2.1.trans hB.1
    have gB : ∀ i : Nat, i < L → g 3 i = B i := fun i hi => by rw [F.1 3 (by omega)]; exact (hB.2.2 i hi).1
    have hL := hB.2.1
    refine z_al0 eX9_takeWord_5 ?_
    refine z_gi eX9_takeWord_6 fX9_28 zs2 ?_
    refine z_al0 eX9_takeWord_9 ?_
    refine z_gi eX9_takeWord_10 fX9_25 zs2 ?_
    refine z_cge eX9_takeWord_13 rfl (fun c13 => ?_) (fun c13 => ?_)
    · have eE : ltF B r (a + n) = a + n := by
        have e0 : r = 0 := by omega
        rw [e0]; rfl
      refine z_al0 eX9_takeWord_70 ?_
      refine z_gi eX9_takeWord_71 fX9_28 zs2 ?_
      refine z_al0 eX9_takeWord_74 ?_
      refine z_gi eX9_takeWord_75 fX9_31 zs2 ?_
      refine z_isubN eX9_takeWord_78 (by omega) (by omega) ?_
      refine z_ki eX9_takeWord_79 ?_
      refine z_cle eX9_takeWord_81 rfl (fun c81 => ?_) (fun c81 => ?_)
      · refine ze_v eX9_takeWord_89 rfl ?_
        refine ⟨F, e4, e5, by rw [eE]; exact e3, ?_⟩
        rw [eE, show a + n - a = n by omega, if_pos (by omega)]
        exact e7 (by omega)
      · refine z_al0 eX9_takeWord_84 ?_
        refine z_kj eX9_takeWord_85 ?_
        refine z_pj eX9_takeWord_86 pX9_34 zs2 ?_
        refine ze_v eX9_takeWord_89 rfl ?_
        refine ⟨F.up (by omega) _, by rw [zup_ne (by decide)]; exact e4, by rw [zup_ne (by decide)]; exact e5, by rw [zup_ne (by decide), eE]; exact e3, ?_⟩
        rw [zup_at, eE, if_neg (by omega)]
    · refine z_al0 eX9_takeWord_16 ?_
      refine z_ga eX9_takeWord_17 fX9_9 zs2 (t := 3) rfl ?_
      refine z_al0 eX9_takeWord_20 ?_
      refine z_gi eX9_takeWord_21 fX9_28 zs2 ?_
      refine zr_bN eX9_takeWord_24 zs3 (j := a + n) (by omega) (by omega) ?_
      refine zc_si1 eX9_takeWord_25 lX9_44 tX9_isLetter (by decide) (Nat.le_of_ble_eq_true rfl) (x_isLetter _ _) ?_
      rintro _ _ ⟨rfl, rfl⟩ -
      refine z_ieq eX9_takeWord_28 rfl (fun c28 => ?_) (fun c28 => ?_)
      · have z28 := iteF c28
        have eE : ltF B r (a + n) = a + n := by
          obtain ⟨r2, e0⟩ : ∃ r2, r = r2 + 1 := ⟨r - 1, by omega⟩
          rw [e0]
          exact ltF_f (by rw [← gB (a + n) (by omega)]; exact z28)
        refine z_al0 eX9_takeWord_70 ?_
        refine z_gi eX9_takeWord_71 fX9_28 zs2 ?_
        refine z_al0 eX9_takeWord_74 ?_
        refine z_gi eX9_takeWord_75 fX9_31 zs2 ?_
        refine z_isubN eX9_takeWord_78 (by omega) (by omega) ?_
        refine z_ki eX9_takeWord_79 ?_
        refine z_cle eX9_takeWord_81 rfl (fun c81 => ?_) (fun c81 => ?_)
        · refine ze_v eX9_takeWord_89 rfl ?_
          refine ⟨F, e4, e5, by rw [eE]; exact e3, ?_⟩
          rw [eE, show a + n - a = n by omega, if_pos (by omega)]
          exact e7 (by omega)
        · refine z_al0 eX9_takeWord_84 ?_
          refine z_kj eX9_takeWord_85 ?_
          refine z_pj eX9_takeWord_86 pX9_34 zs2 ?_
          refine ze_v eX9_takeWord_89 rfl ?_
          refine ⟨F.up (by omega) _, by rw [zup_ne (by decide)]; exact e4, by rw [zup_ne (by decide)]; exact e5, by rw [zup_ne (by decide), eE]; exact e3, ?_⟩
          rw [zup_at, eE, if_neg (by omega)]
      · have z28 := iteT c28
        have zb : 97 ≤ B (a + n) ∧ B (a + n) ≤ 122 := by rw [← gB (a + n) (by omega)]; exact z28
        rw [gB (a + n) (by omega)] at z28
        refine z_al0 eX9_takeWord_31 ?_
        refine z_al0 eX9_takeWord_32 ?_
        refine z_gj eX9_takeWord_33 fX9_34 zs2 ?_
        refine z_ki eX9_takeWord_36 ?_
        refine z_lshl eX9_takeWord_37 ?_
        refine z_al0 eX9_takeWord_38 ?_
        refine z_ga eX9_takeWord_39 fX9_9 zs2 (t := 3) rfl ?_
        refine z_al0 eX9_takeWord_42 ?_
        refine z_gi eX9_takeWord_43 fX9_28 zs2 ?_
        refine zr_bN eX9_takeWord_46 zs3 (j := a + n) (by omega) (by omega) ?_
        rw [gB (a + n) (by omega)]
        refine z_ki eX9_takeWord_47 ?_
        refine z_isubN eX9_takeWord_49 (by omega) (by omega) ?_
        refine z_ki eX9_takeWord_50 ?_
        refine z_iaddN eX9_takeWord_51 (by omega) (by omega) ?_
        refine z_i2l eX9_takeWord_52 ?_
        refine z_lor eX9_takeWord_53 ?_
        refine z_pj eX9_takeWord_54 pX9_34 zs2 ?_
        refine z_al0 eX9_takeWord_57 ?_
        refine z_dup eX9_takeWord_58 zn2 ?_
        refine z_gi eX9_takeWord_59 fX9_28 zs2 ?_
        rw [zup_ne (by decide), e3]
        refine z_ki eX9_takeWord_62 ?_
        refine z_iaddN eX9_takeWord_63 (by omega) (by omega) ?_
        refine z_pi eX9_takeWord_64 pX9_28 zs2 ?_
        refine z_goto eX9_takeWord_67 rfl ?_
        obtain ⟨r2, e0⟩ : ∃ r2, r = r2 + 1 := ⟨r - 1, by omega⟩
        rw [e0, ltF_t zb, show a + n + 1 = a + (n + 1) by omega]
        refine ih r2 (by omega) (n + 1) _ (by omega) ((F.up (by omega) _).up (by omega) _) (by rw [zup_at]; omega) (by rw [zup_ne (by decide), zup_ne (by decide)]; exact e5) (by rw [zup_ne (by decide), zup_ne (by decide)]; exact e4) (fun h8 => ?_) (fun i i1 i2 => ?_)
        · rw [zup_ne (by decide), zup_at, e7 (by omega)]
          have w := wdF_b (B := B) (a := a) n hl
          have wp : 32 ^ n ≤ 32 ^ 7 := Nat.pow_le_pow_right (by omega) (by omega)
          obtain ⟨w2, hw2⟩ : ∃ w2 : Nat, wdF B a n = (w2 : Int) := ⟨(wdF B a n).toNat, by omega⟩
          obtain ⟨x2, hx2⟩ : ∃ x2 : Nat, B (a + n) - 97 + 1 = (x2 : Int) := ⟨(B (a + n) - 97 + 1).toNat, by omega⟩
          rw [hx2, hw2, zlshl5 (by omega), zlor5 (by omega) (by omega), wdF, hw2]
          omega
        · by_cases z : i = a + n
          · rw [z]; exact zb
          · exact hl i i1 (by omega)
theorem x_takeWord (h : zHp) (B : Nat → Int) (L : Nat) (hB : xB h B L) (a : Nat) (ha : a ≤ L) (e3 : h 2 3 = (a : Int)) (e5 : h 2 5 = (a : Int)) (e7 : h 2 7 = 0) : zCv mX9_takeWord 1 [zA 2] h (fun h' => xFr h h' ∧ h' 2 4 = 1 ∧ h' 2 5 = (a : Int) ∧ h' 2 3 = (ltF B (L - a) a : Int) ∧ h' 2 7 = (if ltF B (L - a) a - a ≤ 8 then wdF B a (ltF B (L - a) a - a) else 0)) := by
  refine z_enter [zA 2] (by decide +kernel) (Nat.le_of_ble_eq_true rfl) rfl (fun hra hrg => ?_)
  refine z_al0 eX9_takeWord_0 ?_
  refine z_ki eX9_takeWord_1 ?_
  refine z_pi eX9_takeWord_2 pX9_41 zs2 ?_
  exact x_tw_l h B L hB a (L - a) 0 _ (by omega) (xFr.rf.up (by omega) _) (by rw [zup_ne (by decide)]; exact e3) (by rw [zup_ne (by decide)]; exact e5) (zup_at _ _ _ _) (fun _ => by rw [zup_ne (by decide)]; exact e7) (fun i i1 i2 => by omega)
theorem x_tn_l (h : zHp) (B : Nat → Int) (L : Nat) (hB : xB h B L) (a : Nat) : ∀ (r n : Nat) (g : zHp), a + n + r = L → xFr h g → g 2 3 = ((a + n : Nat) : Int) → g 2 5 = (a : Int) → (n ≤ 3 → g 2 6 = nuF B a n) → (∀ i : Nat, a ≤ i → i < a + n → 48 ≤ B i ∧ B i ≤ 57) → zRW mX9_takeNumber 1 (0, 0) 0 [zA 2] [] 143 g (zqv (fun h' => xFr h h' ∧ h' 2 4 = (if 3 < dgF B r (a + n) - a then 4 else 2) ∧ h' 2 5 = (a : Int) ∧ h' 2 3 = (dgF B r (a + n) : Int) ∧ (dgF B r (a + n) - a ≤ 3 → h' 2 6 = nuF B a (dgF B r (a + n) - a)))) := by
  intro r
  induction r using Nat.strongRecOn with
  | ind r ih =>
    intro n g hk F e3 e5 e6 hl
    have gL : g 2 2 = (L : Int) := F.2.2.1.trans hB.1
    have gB : ∀ i : Nat, i < L → g 3 i = B i := fun i hi => by rw [F.1 3 (by omega)]; exact (hB.2.2 i hi).1
    have hL := hB.2.1
    refine z_al0 eX9_takeNumber_0 ?_
    refine z_gi eX9_takeNumber_1 fX9_28 zs2 ?_
    refine z_al0 eX9_takeNumber_4 ?_
    refine z_gi eX9_takeNumber_5 fX9_25 zs2 ?_
    refine z_cge eX9_takeNumber_8 rfl (fun c8 => ?_) (fun c8 => ?_)
    · have eE : dgF B r (a + n) = a + n := by
        have e0 : r = 0 := by omega
        rw [e0]; rfl
      refine z_al0 eX9_takeNumber_63 ?_
      refine z_al0 eX9_takeNumber_64 ?_
      refine z_gi eX9_takeNumber_65 fX9_28 zs2 ?_
      refine z_al0 eX9_takeNumber_68 ?_
      refine z_gi eX9_takeNumber_69 fX9_31 zs2 ?_
      refine z_isubN eX9_takeNumber_72 (by omega) (by omega) ?_
      refine z_ki eX9_takeNumber_73 ?_
      refine z_cle eX9_takeNumber_74 rfl (fun c74 => ?_) (fun c74 => ?_)
      · refine z_ki eX9_takeNumber_81 ?_
        refine z_pi eX9_takeNumber_82 pX9_41 zs2 ?_
        refine ze_v eX9_takeNumber_85 rfl ?_
        refine ⟨F.up (by omega) _, ?_, by rw [zup_ne (by decide)]; exact e5, by rw [zup_ne (by decide), eE]; exact e3, fun q3 => ?_⟩
        · rw [zup_at, eE, if_neg (by omega)]
        · rw [eE] at q3 ⊢
          rw [zup_ne (by decide), show a + n - a = n by omega]
          exact e6 (by omega)
      · refine z_ki eX9_takeNumber_77 ?_
        refine z_goto eX9_takeNumber_78 rfl ?_
        refine z_pi eX9_takeNumber_82 pX9_41 zs2 ?_
        refine ze_v eX9_takeNumber_85 rfl ?_
        refine ⟨F.up (by omega) _, ?_, by rw [zup_ne (by decide)]; exact e5, by rw [zup_ne (by decide), eE]; exact e3, fun q3 => ?_⟩
        · rw [zup_at, eE, if_pos (by omega)]
        · rw [eE] at q3 ⊢
          rw [zup_ne (by decide), show a + n - a = n by omega]
          exact e6 (by omega)
    · refine z_al0 eX9_takeNumber_11 ?_
      refine z_ga eX9_takeNumber_12 fX9_9 zs2 (t := 3) rfl ?_
      refine z_al0 eX9_takeNumber_15 ?_
      refine z_gi eX9_takeNumber_16 fX9_28 zs2 ?_
      refine zr_bN eX9_takeNumber_19 zs3 (j := a + n) (by omega) (by omega) ?_
      refine zc_si1 eX9_takeNumber_20 lX9_51 tX9_isDigit (by decide) (Nat.le_of_ble_eq_true rfl) (x_isDigit _ _) ?_
      rintro _ _ ⟨rfl, rfl⟩ -
      refine z_ieq eX9_takeNumber_23 rfl (fun c23 => ?_) (fun c23 => ?_)
      · have z23 := iteF c23
        have eE : dgF B r (a + n) = a + n := by
          obtain ⟨r2, e0⟩ : ∃ r2, r = r2 + 1 := ⟨r - 1, by omega⟩
          rw [e0]
          exact dgF_f (by rw [← gB (a + n) (by omega)]; exact z23)
        refine z_al0 eX9_takeNumber_63 ?_
        refine z_al0 eX9_takeNumber_64 ?_
        refine z_gi eX9_takeNumber_65 fX9_28 zs2 ?_
        refine z_al0 eX9_takeNumber_68 ?_
        refine z_gi eX9_takeNumber_69 fX9_31 zs2 ?_
        refine z_isubN eX9_takeNumber_72 (by omega) (by omega) ?_
        refine z_ki eX9_takeNumber_73 ?_
        refine z_cle eX9_takeNumber_74 rfl (fun c74 => ?_) (fun c74 => ?_)
        · refine z_ki eX9_takeNumber_81 ?_
          refine z_pi eX9_takeNumber_82 pX9_41 zs2 ?_
          refine ze_v eX9_takeNumber_85 rfl ?_
          refine ⟨F.up (by omega) _, ?_, by rw [zup_ne (by decide)]; exact e5, by rw [zup_ne (by decide), eE]; exact e3, fun q3 => ?_⟩
          · rw [zup_at, eE, if_neg (by omega)]
          · rw [eE] at q3 ⊢
            rw [zup_ne (by decide), show a + n - a = n by omega]
            exact e6 (by omega)
        · refine z_ki eX9_takeNumber_77 ?_
          refine z_goto eX9_takeNumber_78 rfl ?_
          refine z_pi eX9_takeNumber_82 pX9_41 zs2 ?_
          refine ze_v eX9_takeNumber_85 rfl ?_
          refine ⟨F.up (by omega) _, ?_, by rw [zup_ne (by decide)]; exact e5, by rw [zup_ne (by decide), eE]; exact e3, fun q3 => ?_⟩
          · rw [zup_at, eE, if_pos (by omega)]
          · rw [eE] at q3 ⊢
            rw [zup_ne (by decide), show a + n - a = n by omega]
            exact e6 (by omega)
      · have z23 := iteT c23
        have zb : 48 ≤ B (a + n) ∧ B (a + n) ≤ 57 := by rw [← gB (a + n) (by omega)]; exact z23
        refine z_al0 eX9_takeNumber_26 ?_
        refine z_al0 eX9_takeNumber_27 ?_
        refine z_gi eX9_takeNumber_28 fX9_38 zs2 ?_
        refine z_ki eX9_takeNumber_31 ?_
        refine z_imul eX9_takeNumber_33 ?_
        refine z_al0 eX9_takeNumber_34 ?_
        refine z_ga eX9_takeNumber_35 fX9_9 zs2 (t := 3) rfl ?_
        refine z_al0 eX9_takeNumber_38 ?_
        refine z_gi eX9_takeNumber_39 fX9_28 zs2 ?_
        refine zr_bN eX9_takeNumber_42 zs3 (j := a + n) (by omega) (by omega) ?_
        rw [gB (a + n) (by omega)]
        refine z_ki eX9_takeNumber_43 ?_
        refine z_isubN eX9_takeNumber_45 (by omega) (by omega) ?_
        refine z_iadd eX9_takeNumber_46 ?_
        refine z_pi eX9_takeNumber_47 pX9_38 zs2 ?_
        refine z_al0 eX9_takeNumber_50 ?_
        refine z_dup eX9_takeNumber_51 zn2 ?_
        refine z_gi eX9_takeNumber_52 fX9_28 zs2 ?_
        rw [zup_ne (by decide), e3]
        refine z_ki eX9_takeNumber_55 ?_
        refine z_iaddN eX9_takeNumber_56 (by omega) (by omega) ?_
        refine z_pi eX9_takeNumber_57 pX9_28 zs2 ?_
        refine z_goto eX9_takeNumber_60 rfl ?_
        obtain ⟨r2, e0⟩ : ∃ r2, r = r2 + 1 := ⟨r - 1, by omega⟩
        rw [e0, dgF_t zb, show a + n + 1 = a + (n + 1) by omega]
        refine ih r2 (by omega) (n + 1) _ (by omega) ((F.up (by omega) _).up (by omega) _) (by rw [zup_at]; omega) (by rw [zup_ne (by decide), zup_ne (by decide)]; exact e5) (fun h8 => ?_) (fun i i1 i2 => ?_)
        · rw [zup_ne (by decide), zup_at, e6 (by omega)]
          have w := nuF_b (B := B) (a := a) n hl
          have wp : 10 ^ n ≤ 10 ^ 2 := Nat.pow_le_pow_right (by omega) (by omega)
          rw [zw1 (x := nuF B a n * 10) (by omega) (by omega), zw1 (by omega) (by omega)]
          rfl
        · by_cases z : i = a + n
          · rw [z]; exact zb
          · exact hl i i1 (by omega)
theorem x_takeNumber (h : zHp) (B : Nat → Int) (L : Nat) (hB : xB h B L) (a : Nat) (ha : a ≤ L) (e3 : h 2 3 = (a : Int)) (e5 : h 2 5 = (a : Int)) (e6 : h 2 6 = 0) : zCv mX9_takeNumber 1 [zA 2] h (fun h' => xFr h h' ∧ h' 2 4 = (if 3 < dgF B (L - a) a - a then 4 else 2) ∧ h' 2 5 = (a : Int) ∧ h' 2 3 = (dgF B (L - a) a : Int) ∧ (dgF B (L - a) a - a ≤ 3 → h' 2 6 = nuF B a (dgF B (L - a) a - a))) := by
  refine z_enter [zA 2] (by decide +kernel) (Nat.le_of_ble_eq_true rfl) rfl (fun hra hrg => ?_)
  exact x_tn_l h B L hB a (L - a) 0 _ (by omega) xFr.rf e3 e5 (fun _ => e6) (fun i i1 i2 => by omega)
theorem x_adv_2 (h : zHp) (B : Nat → Int) (L : Nat) (hB : xB h B L) (a : Nat) (ha : a ≤ L) (g : zHp) (F : xFr h g) (e3 : g 2 3 = (a : Int)) : zRW mX9_advance 2 (0, 0) 52 [zA 2] [] 143 g (zqv (fun h' => xFr h h' ∧ xTa B L a h')) := by
  refine z_al0 eX9_advance_52 ?_
  refine z_al0 eX9_advance_53 ?_
  refine z_gi eX9_advance_54 fX9_28 zs2 ?_
  rw [e3]
  refine z_pi eX9_advance_57 pX9_31 zs2 ?_
  refine z_al0 eX9_advance_60 ?_
  refine z_kj eX9_advance_61 ?_
  refine z_pj eX9_advance_62 pX9_34 zs2 ?_
  refine z_al0 eX9_advance_65 ?_
  refine z_ki eX9_advance_66 ?_
  refine z_pi eX9_advance_67 pX9_38 zs2 ?_
  generalize hg1 : zup (zup (zup g 2 5 (a : Int)) 2 7 0) 2 6 0 = f
  have F1 : xFr h f := by rw [← hg1]; exact ((F.up (by omega) _).up (by omega) _).up (by omega) _
  have f3 : f 2 3 = (a : Int) := by rw [← hg1, zup_ne (by decide), zup_ne (by decide), zup_ne (by decide)]; exact e3
  have f5 : f 2 5 = (a : Int) := by rw [← hg1, zup_ne (by decide), zup_ne (by decide), zup_at]
  have f7 : f 2 7 = 0 := by rw [← hg1, zup_ne (by decide), zup_at]
  have f6 : f 2 6 = 0 := by rw [← hg1, zup_at]
  clear hg1
  have gL : f 2 2 = (L : Int) := F1.2.2.1.trans hB.1
  have gB : ∀ i : Nat, i < L → f 3 i = B i := fun i hi => by rw [F1.1 3 (by omega)]; exact (hB.2.2 i hi).1
  have hL := hB.2.1
  refine z_al0 eX9_advance_70 ?_
  refine z_gi eX9_advance_71 fX9_28 zs2 ?_
  refine z_al0 eX9_advance_74 ?_
  refine z_gi eX9_advance_75 fX9_25 zs2 ?_
  refine z_clt eX9_advance_78 rfl (fun c78 => ?_) (fun c78 => ?_)
  · have na : ¬ a = L := by omega
    refine z_al0 eX9_advance_89 ?_
    refine z_ga eX9_advance_90 fX9_9 zs2 (t := 3) rfl ?_
    refine z_al0 eX9_advance_93 ?_
    refine z_gi eX9_advance_94 fX9_28 zs2 ?_
    refine zr_bN eX9_advance_97 zs3 (j := a) (by omega) (by omega) ?_
    refine zc_si1 eX9_advance_98 lX9_44 tX9_isLetter (by decide) (Nat.le_of_ble_eq_true rfl) (x_isLetter _ _) ?_
    rintro _ _ ⟨rfl, rfl⟩ -
    refine z_ieq eX9_advance_101 rfl (fun c101 => ?_) (fun c101 => ?_)
    · have z101 := iteF c101
      rw [gB a (by omega)] at z101
      refine z_al0 eX9_advance_111 ?_
      refine z_ga eX9_advance_112 fX9_9 zs2 (t := 3) rfl ?_
      refine z_al0 eX9_advance_115 ?_
      refine z_gi eX9_advance_116 fX9_28 zs2 ?_
      refine zr_bN eX9_advance_119 zs3 (j := a) (by omega) (by omega) ?_
      refine zc_si1 eX9_advance_120 lX9_51 tX9_isDigit (by decide) (Nat.le_of_ble_eq_true rfl) (x_isDigit _ _) ?_
      rintro _ _ ⟨rfl, rfl⟩ -
      refine z_ieq eX9_advance_123 rfl (fun c123 => ?_) (fun c123 => ?_)
      · have z123 := iteF c123
        rw [gB a (by omega)] at z123
        have k3 := kK_3 na z101 z123
        refine z_al0 eX9_advance_133 ?_
        refine z_ga eX9_advance_134 fX9_9 zs2 (t := 3) rfl ?_
        refine z_al0 eX9_advance_137 ?_
        refine z_gi eX9_advance_138 fX9_28 zs2 ?_
        refine zr_bN eX9_advance_141 zs3 (j := a) (by omega) (by omega) ?_
        rw [gB a (by omega)]
        refine z_ki eX9_advance_142 ?_
        refine z_cne eX9_advance_144 rfl (fun c144 => ?_) (fun c144 => ?_)
        · refine z_al0 eX9_advance_165 ?_
          refine z_ki eX9_advance_166 ?_
          refine z_pi eX9_advance_167 pX9_41 zs2 ?_
          refine ze_v eX9_advance_170 rfl ?_
          rw [if_neg (by omega)] at k3
          refine ⟨F1.up (by omega) _, by rw [zup_at, k3.1], by rw [zup_ne (by decide)]; exact f5, fun z => by omega, fun z => by omega, fun z => absurd k3.1 z⟩
        · refine z_al0 eX9_advance_147 ?_
          refine z_ki eX9_advance_148 ?_
          refine z_pi eX9_advance_149 pX9_41 zs2 ?_
          refine z_al0 eX9_advance_152 ?_
          refine z_dup eX9_advance_153 zn2 ?_
          refine z_gi eX9_advance_154 fX9_28 zs2 ?_
          rw [zup_ne (by decide), f3]
          refine z_ki eX9_advance_157 ?_
          refine z_iaddN eX9_advance_158 (by omega) (by omega) ?_
          refine z_pi eX9_advance_159 pX9_28 zs2 ?_
          refine z_goto eX9_advance_162 rfl ?_
          refine ze_v eX9_advance_170 rfl ?_
          rw [if_pos (by omega)] at k3
          refine ⟨(F1.up (by omega) _).up (by omega) _, by rw [zup_ne (by decide), zup_at, k3.1], by rw [zup_ne (by decide), zup_ne (by decide)]; exact f5, fun z => by omega, fun z => by omega, fun z => by rw [zup_at, k3.2]; omega⟩
      · have z123 := iteT c123
        rw [gB a (by omega)] at z123
        refine z_al0 eX9_advance_126 ?_
        refine zc_vv0 eX9_advance_127 lX9_54 tX9_takeNumber zs2 (by decide) (Nat.le_of_ble_eq_true rfl) (x_takeNumber f B L (hB.fr F1) a ha f3 f5 f6) ?_
        rintro f2 ⟨G, w4, w5, w3, w6⟩
        refine z_goto eX9_advance_130 rfl ?_
        refine ze_v eX9_advance_170 rfl ?_
        have kk := kK_2 na z123
        have ke := kE_2 na z123
        refine ⟨F1.tr G, by rw [w4, kk], w5, fun z => by rw [kk] at z; split at z <;> omega, fun z => ?_, fun _ => by rw [w3, ke]⟩
        rw [kk] at z
        rw [w6 (by split at z <;> omega), ← ke]; rfl
    · have z101 := iteT c101
      rw [gB a (by omega)] at z101
      refine z_al0 eX9_advance_104 ?_
      refine zc_vv0 eX9_advance_105 lX9_48 tX9_takeWord zs2 (by decide) (Nat.le_of_ble_eq_true rfl) (x_takeWord f B L (hB.fr F1) a ha f3 f5 f7) ?_
      rintro f2 ⟨G, w4, w5, w3, w7⟩
      refine z_goto eX9_advance_108 rfl ?_
      refine ze_v eX9_advance_170 rfl ?_
      have kk := kK_1 na z101
      have ke := kE_1 na z101
      refine ⟨F1.tr G, by rw [w4, kk], w5, fun _ => ?_, fun z => by rw [kk] at z; omega, fun _ => by rw [w3, ke]⟩
      rw [w7, ← ke]; rfl
  · refine z_al0 eX9_advance_81 ?_
    refine z_ki eX9_advance_82 ?_
    refine z_pi eX9_advance_83 pX9_41 zs2 ?_
    refine z_goto eX9_advance_86 rfl ?_
    refine ze_v eX9_advance_170 rfl ?_
    have ea : a = L := by omega
    refine ⟨F1.up (by omega) _, by rw [zup_at, kK_0 ea], by rw [zup_ne (by decide)]; exact f5, fun z => by rw [kK_0 ea] at z; omega, fun z => by rw [kK_0 ea] at z; omega, fun _ => by rw [zup_ne (by decide), kE_0 ea, f3, ea]⟩
theorem x_adv_1 (h : zHp) (B : Nat → Int) (L : Nat) (hB : xB h B L) : ∀ (r q : Nat) (g : zHp), q + r = L → xFr h g → g 2 3 = (q : Int) → zRW mX9_advance 2 (0, 0) 0 [zA 2] [] 143 g (zqv (fun h' => xFr h h' ∧ xTa B L (skF B r q) h')) := by
  intro r
  induction r using Nat.strongRecOn with
  | ind r ih =>
    intro q g hk F e3
    have gL : g 2 2 = (L : Int) := F.2.2.1.trans hB.1
    have gB : ∀ i : Nat, i < L → g 3 i = B i := fun i hi => by rw [F.1 3 (by omega)]; exact (hB.2.2 i hi).1
    have hL := hB.2.1
    refine z_al0 eX9_advance_0 ?_
    refine z_gi eX9_advance_1 fX9_28 zs2 ?_
    refine z_al0 eX9_advance_4 ?_
    refine z_gi eX9_advance_5 fX9_25 zs2 ?_
    refine z_cge eX9_advance_8 rfl (fun c8 => ?_) (fun c8 => ?_)
    · have eE : skF B r q = q := by
        have e0 : r = 0 := by omega
        rw [e0]; rfl
      rw [eE]
      exact x_adv_2 h B L hB q (by omega) g F e3
    · refine z_al0 eX9_advance_11 ?_
      refine z_ga eX9_advance_12 fX9_9 zs2 (t := 3) rfl ?_
      refine z_al0 eX9_advance_15 ?_
      refine z_gi eX9_advance_16 fX9_28 zs2 ?_
      refine zr_bN eX9_advance_19 zs3 (j := q) (by omega) (by omega) ?_
      rw [gB q (by omega)]
      refine z_ki eX9_advance_20 ?_
      refine z_ceq eX9_advance_22 rfl (fun c22 => ?_) (fun c22 => ?_)
      · refine z_al0 eX9_advance_39 ?_
        refine z_dup eX9_advance_40 zn2 ?_
        refine z_gi eX9_advance_41 fX9_28 zs2 ?_
        rw [e3]
        refine z_ki eX9_advance_44 ?_
        refine z_iaddN eX9_advance_45 (by omega) (by omega) ?_
        refine z_pi eX9_advance_46 pX9_28 zs2 ?_
        refine z_goto eX9_advance_49 rfl ?_
        obtain ⟨r2, e0⟩ : ∃ r2, r = r2 + 1 := ⟨r - 1, by omega⟩
        rw [e0, skF_t (by omega)]
        exact ih r2 (by omega) (q + 1) _ (by omega) (F.up (by omega) _) (by rw [zup_at]; omega)
      · refine z_al0 eX9_advance_25 ?_
        refine z_ga eX9_advance_26 fX9_9 zs2 (t := 3) rfl ?_
        refine z_al0 eX9_advance_29 ?_
        refine z_gi eX9_advance_30 fX9_28 zs2 ?_
        refine zr_bN eX9_advance_33 zs3 (j := q) (by omega) (by omega) ?_
        rw [gB q (by omega)]
        refine z_ki eX9_advance_34 ?_
        refine z_cne eX9_advance_36 rfl (fun c36 => ?_) (fun c36 => ?_)
        · have eE : skF B r q = q := by
            obtain ⟨r2, e0⟩ : ∃ r2, r = r2 + 1 := ⟨r - 1, by omega⟩
            rw [e0]
            exact skF_f (by omega)
          rw [eE]
          exact x_adv_2 h B L hB q (by omega) g F e3
        · refine z_al0 eX9_advance_39 ?_
          refine z_dup eX9_advance_40 zn2 ?_
          refine z_gi eX9_advance_41 fX9_28 zs2 ?_
          rw [e3]
          refine z_ki eX9_advance_44 ?_
          refine z_iaddN eX9_advance_45 (by omega) (by omega) ?_
          refine z_pi eX9_advance_46 pX9_28 zs2 ?_
          refine z_goto eX9_advance_49 rfl ?_
          obtain ⟨r2, e0⟩ : ∃ r2, r = r2 + 1 := ⟨r - 1, by omega⟩
          rw [e0, skF_t (by omega)]
          exact ih r2 (by omega) (q + 1) _ (by omega) (F.up (by omega) _) (by rw [zup_at]; omega)
theorem x_advance (h : zHp) (B : Nat → Int) (L : Nat) (hB : xB h B L) (q : Nat) (hq : q ≤ L) (e3 : h 2 3 = (q : Int)) : zCv mX9_advance 2 [zA 2] h (fun h' => xFr h h' ∧ xTa B L (tkA B L q) h') := by
  refine z_enter [zA 2] (by decide +kernel) (Nat.le_of_ble_eq_true rfl) rfl (fun hra hrg => ?_)
  exact x_adv_1 h B L hB (L - q) q h (by omega) xFr.rf e3
def lk (B : Nat → Int) (L i : Nat) : Int := if i < L then (if B i < 0 then B i + 256 else B i) else 0
theorem lk_i {h : zHp} {B : Nat → Int} {L i : Nat} (hB : mB h B L) (hi : i < L) : lk B L i = B i + 256 ∧ B i < 0 ∧ -128 ≤ B i ∨ lk B L i = B i ∧ 0 ≤ B i := by
  unfold lk
  rw [if_pos hi]
  have q := hB.2.2 i hi
  split
  · next c => exact Or.inl ⟨rfl, c, q.2.1⟩
  · next c => exact Or.inr ⟨rfl, by omega⟩
theorem lk_o {B : Nat → Int} {L i : Nat} (hi : ¬ i < L) : lk B L i = 0 := if_neg hi
theorem r_lk (h : zHp) (B : Nat → Int) (L : Nat) (hB : mB h B L) (i : Nat) : zCi mX12_look 0 [zA 117, zI i] h (fun v h' => lk B L i = v ∧ h = h') := by
  refine z_enter [zA 117, zI i] (by decide +kernel) (Nat.le_of_ble_eq_true rfl) rfl (fun hra hrg => ?_)
  refine z_il1 eX12_look_0 ?_
  refine z_al0 eX12_look_1 ?_
  have gL := hB.1
  have hL := hB.2.1
  refine z_gi eX12_look_2 fX12_137 zs117 ?_
  refine z_cge eX12_look_5 rfl (fun c5 => ?_) (fun c5 => ?_)
  · refine z_ki eX12_look_21 ?_
    refine ze_i eX12_look_22 rfl ?_
    refine ⟨?_, rfl⟩
    unfold lk
    rw [if_neg (by omega)]
  · refine z_al0 eX12_look_8 ?_
    refine z_ga eX12_look_9 fX12_24 zs117 (t := 121) rfl ?_
    refine z_il1 eX12_look_12 ?_
    refine zr_bN eX12_look_13 zs121 (j := i) (by omega) (by omega) ?_
    refine z_ki eX12_look_14 ?_
    refine z_iand eX12_look_17 ?_
    refine z_goto eX12_look_18 rfl ?_
    refine ze_i eX12_look_22 rfl ?_
    refine ⟨?_, rfl⟩
    unfold lk
    have q := hB.2.2 i (by omega)
    rw [if_pos (by omega), q.1, bU _ q.2.1 q.2.2]
theorem r_nx_w (h : zHp) (B : Nat → Int) (L : Nat) (hB : mB h B L) (a : Nat) (x : Int) (kk : kK B L a = 1) : ∀ (r n : Nat) (g : zHp), a + n + r = L → kE B L a = ltF B r (a + n) → mFr h g → g 117 14 = 1 → g 117 15 = (a : Int) → g 117 16 = ((a + n : Nat) : Int) → (n ≤ 8 → g 117 19 = wdF B a n) → (8 < n → g 117 19 = -1) → (∀ i : Nat, a ≤ i → i < a + n → 97 ≤ B i ∧ B i ≤ 122) → zRW mX12_next 1 (0, 0) 109 [zA 117, zI x] [] 143 g (zqv (fun h' => mFr h h' ∧ mTa B L a h')) := by
  intro r
  induction r using Nat.strongRecOn with
  | ind r ih =>
    intro n g hk hE F e14 e15 e16 e19 e19b hl
    have gL : g 117 9 = (L : Int) := (F.2 9 (by omega)).trans hB.1
    have gB := hB.fr F
    have hL := hB.2.1
    refine z_al0 eX12_next_109 ?_
    refine z_al0 eX12_next_110 ?_
    refine z_gi eX12_next_111 fX12_140 zs117 ?_
    rw [e16]
    refine zc_vi1 eX12_next_114 lX12_146 tX12_look zs117 (by decide) (Nat.le_of_ble_eq_true rfl) (r_lk _ B L gB _) ?_
    rintro _ _ ⟨rfl, rfl⟩ -
    refine zc_si1 eX12_next_117 lX12_152 tX12_isLetter (by decide) (Nat.le_of_ble_eq_true rfl) (r_isLetter _ _) ?_
    rintro _ _ ⟨rfl, rfl⟩ -
    refine z_ieq eX12_next_120 rfl (fun c120 => ?_) (fun c120 => ?_)
    · have z120 := iteF c120
      have eE : ltF B r (a + n) = a + n := by
        by_cases hz : a + n < L
        · obtain ⟨r2, e0⟩ : ∃ r2, r = r2 + 1 := ⟨r - 1, by omega⟩
          rw [e0]
          have ql := lk_i gB hz
          exact ltF_f (by omega)
        · have e0 : r = 0 := by omega
          rw [e0]; rfl
      refine z_al0 eX12_next_182 ?_
      refine z_al0 eX12_next_183 ?_
      refine z_gi eX12_next_184 fX12_140 zs117 ?_
      refine z_al0 eX12_next_187 ?_
      refine z_gi eX12_next_188 fX12_143 zs117 ?_
      refine z_isubN eX12_next_191 (by omega) (by omega) ?_
      refine z_pi eX12_next_192 pX12_162 zs117 ?_
      refine z_goto eX12_next_195 rfl ?_
      refine ze_v eX12_next_323 rfl ?_
      rw [eE] at hE
      refine ⟨F.up (by omega) _, by rw [zup_ne (by decide), e14, kk], by rw [zup_ne (by decide)]; exact e15, fun _ => ⟨fun q8 => ?_, fun q8 => ?_⟩, fun z => by omega, fun _ => by rw [zup_ne (by decide), hE]; exact e16⟩
      · rw [zup_ne (by decide), zup_at]
        exact ⟨e19b (by omega), by omega⟩
      · rw [zup_ne (by decide), zup_at]
        unfold kW
        rw [if_pos (by omega), hE, show a + n - a = n by omega]
        exact ⟨e19 (by omega), by omega⟩
    · have z120 := iteT c120
      have hz : a + n < L := by
        by_cases hz : a + n < L
        · exact hz
        · have := lk_o (B := B) hz; omega
      have ql := lk_i gB hz
      have zb : 97 ≤ B (a + n) ∧ B (a + n) ≤ 122 := by omega
      have el : lk B L (a + n) = B (a + n) := by omega
      clear z120 ql
      refine z_al0 eX12_next_123 ?_
      refine z_al0 eX12_next_124 ?_
      refine z_gi eX12_next_125 fX12_140 zs117 ?_
      refine z_al0 eX12_next_128 ?_
      refine z_gi eX12_next_129 fX12_143 zs117 ?_
      refine z_isubN eX12_next_132 (by omega) (by omega) ?_
      refine z_ki eX12_next_133 ?_
      refine z_cge eX12_next_135 rfl (fun c135 => ?_) (fun c135 => ?_)
      · refine z_kj eX12_next_163 ?_
        refine z_pj eX12_next_166 pX12_155 zs117 ?_
        refine z_al0 eX12_next_169 ?_
        refine z_dup eX12_next_170 zn2 ?_
        refine z_gi eX12_next_171 fX12_140 zs117 ?_
        rw [zup_ne (by decide), e16]
        refine z_ki eX12_next_174 ?_
        refine z_iaddN eX12_next_175 (by omega) (by omega) ?_
        refine z_pi eX12_next_176 pX12_140 zs117 ?_
        refine z_goto eX12_next_179 rfl ?_
        obtain ⟨r2, e0⟩ : ∃ r2, r = r2 + 1 := ⟨r - 1, by omega⟩
        refine ih r2 (by omega) (n + 1) _ (by omega) (by rw [hE, e0, ltF_t zb]; rfl) ((F.up (by omega) _).up (by omega) _) (by rw [zup_ne (by decide), zup_ne (by decide)]; exact e14) (by rw [zup_ne (by decide), zup_ne (by decide)]; exact e15) (by rw [zup_at]; omega) (fun h8 => ?_) (fun h8 => ?_) (fun i i1 i2 => ?_)
        · omega
        · rw [zup_ne (by decide), zup_at]
        · by_cases z : i = a + n
          · rw [z]; exact zb
          · exact hl i i1 (by omega)
      · refine z_al0 eX12_next_138 ?_
        refine z_gj eX12_next_139 fX12_155 zs117 ?_
        refine z_kj eX12_next_142 ?_
        rw [e19 (by omega)]
        have w := wdF_b (B := B) (a := a) n hl
        have wp : 32 ^ n ≤ 32 ^ 7 := Nat.pow_le_pow_right (by omega) (by omega)
        refine z_lmulN eX12_next_145 (by omega) (by omega) ?_
        refine z_al0 eX12_next_146 ?_
        refine z_al0 eX12_next_147 ?_
        refine z_gi eX12_next_148 fX12_140 zs117 ?_
        rw [e16]
        refine zc_vi1 eX12_next_151 lX12_146 tX12_look zs117 (by decide) (Nat.le_of_ble_eq_true rfl) (r_lk _ B L gB _) ?_
        rintro _ _ ⟨rfl, rfl⟩ -
        refine z_i2l eX12_next_154 ?_
        refine z_laddN eX12_next_155 (by omega) (by omega) ?_
        refine z_kj eX12_next_156 ?_
        refine z_lsubN eX12_next_159 (by omega) (by omega) ?_
        refine z_goto eX12_next_160 rfl ?_
        refine z_pj eX12_next_166 pX12_155 zs117 ?_
        refine z_al0 eX12_next_169 ?_
        refine z_dup eX12_next_170 zn2 ?_
        refine z_gi eX12_next_171 fX12_140 zs117 ?_
        rw [zup_ne (by decide), e16]
        refine z_ki eX12_next_174 ?_
        refine z_iaddN eX12_next_175 (by omega) (by omega) ?_
        refine z_pi eX12_next_176 pX12_140 zs117 ?_
        refine z_goto eX12_next_179 rfl ?_
        obtain ⟨r2, e0⟩ : ∃ r2, r = r2 + 1 := ⟨r - 1, by omega⟩
        refine ih r2 (by omega) (n + 1) _ (by omega) (by rw [hE, e0, ltF_t zb]; rfl) ((F.up (by omega) _).up (by omega) _) (by rw [zup_ne (by decide), zup_ne (by decide)]; exact e14) (by rw [zup_ne (by decide), zup_ne (by decide)]; exact e15) (by rw [zup_at]; omega) (fun h8 => ?_) (fun h8 => ?_) (fun i i1 i2 => ?_)
        · rw [zup_ne (by decide), zup_at, el, wdF]; omega
        · omega
        · by_cases z : i = a + n
          · rw [z]; exact zb
          · exact hl i i1 (by omega)
theorem r_nx_d (h : zHp) (B : Nat → Int) (L : Nat) (hB : mB h B L) (a : Nat) (x : Int) (na : ¬ a = L) (kd : 48 ≤ B a ∧ B a ≤ 57) : ∀ (r n : Nat) (g : zHp), a + n + r = L → kE B L a = dgF B r (a + n) → mFr h g → g 117 15 = (a : Int) → g 117 16 = ((a + n : Nat) : Int) → (n ≤ 3 → g 117 17 = nuF B a n) → (∀ i : Nat, a ≤ i → i < a + n → 48 ≤ B i ∧ B i ≤ 57) → zRW mX12_next 1 (0, 0) 210 [zA 117, zI x] [] 143 g (zqv (fun h' => mFr h h' ∧ mTa B L a h')) := by
  intro r
  induction r using Nat.strongRecOn with
  | ind r ih =>
    intro n g hk hE F e15 e16 e17 hl
    have gL : g 117 9 = (L : Int) := (F.2 9 (by omega)).trans hB.1
    have gB := hB.fr F
    have hL := hB.2.1
    refine z_al0 eX12_next_210 ?_
    refine z_al0 eX12_next_211 ?_
    refine z_gi eX12_next_212 fX12_140 zs117 ?_
    rw [e16]
    refine zc_vi1 eX12_next_215 lX12_146 tX12_look zs117 (by decide) (Nat.le_of_ble_eq_true rfl) (r_lk _ B L gB _) ?_
    rintro _ _ ⟨rfl, rfl⟩ -
    refine zc_si1 eX12_next_218 lX12_165 tX12_isDigit (by decide) (Nat.le_of_ble_eq_true rfl) (r_isDigit _ _) ?_
    rintro _ _ ⟨rfl, rfl⟩ -
    refine z_ieq eX12_next_221 rfl (fun c221 => ?_) (fun c221 => ?_)
    · have z221 := iteF c221
      have eE : dgF B r (a + n) = a + n := by
        by_cases hz : a + n < L
        · obtain ⟨r2, e0⟩ : ∃ r2, r = r2 + 1 := ⟨r - 1, by omega⟩
          rw [e0]
          have ql := lk_i gB hz
          exact dgF_f (by omega)
        · have e0 : r = 0 := by omega
          rw [e0]; rfl
      refine z_al0 eX12_next_273 ?_
      refine z_al0 eX12_next_274 ?_
      refine z_gi eX12_next_275 fX12_140 zs117 ?_
      refine z_al0 eX12_next_278 ?_
      refine z_gi eX12_next_279 fX12_143 zs117 ?_
      refine z_isubN eX12_next_282 (by omega) (by omega) ?_
      refine z_ki eX12_next_283 ?_
      refine z_cle eX12_next_284 rfl (fun c284 => ?_) (fun c284 => ?_)
      · refine z_ki eX12_next_291 ?_
        refine z_pi eX12_next_292 pX12_149 zs117 ?_
        refine z_goto eX12_next_295 rfl ?_
        refine ze_v eX12_next_323 rfl ?_
        rw [eE] at hE
        have kk := kK_2 na kd
        rw [← kE_2 na kd, hE, if_neg (by omega)] at kk
        refine ⟨F.up (by omega) _, by rw [zup_at, kk], by rw [zup_ne (by decide)]; exact e15, fun z => by omega, fun z => ?_, fun z => by rw [zup_ne (by decide), hE]; exact e16⟩
        rw [zup_ne (by decide)]
        unfold kV
        rw [hE, show a + n - a = n by omega]
        exact e17 (by omega)
      · refine z_ki eX12_next_287 ?_
        refine z_goto eX12_next_288 rfl ?_
        refine z_pi eX12_next_292 pX12_149 zs117 ?_
        refine z_goto eX12_next_295 rfl ?_
        refine ze_v eX12_next_323 rfl ?_
        rw [eE] at hE
        have kk := kK_2 na kd
        rw [← kE_2 na kd, hE, if_pos (by omega)] at kk
        refine ⟨F.up (by omega) _, by rw [zup_at, kk], by rw [zup_ne (by decide)]; exact e15, fun z => by omega, fun z => ?_, fun z => by rw [zup_ne (by decide), hE]; exact e16⟩
        omega
    · have z221 := iteT c221
      have hz : a + n < L := by
        by_cases hz : a + n < L
        · exact hz
        · have := lk_o (B := B) hz; omega
      have ql := lk_i gB hz
      have zb : 48 ≤ B (a + n) ∧ B (a + n) ≤ 57 := by omega
      have el : lk B L (a + n) = B (a + n) := by omega
      clear z221 ql
      refine z_al0 eX12_next_224 ?_
      refine z_gi eX12_next_225 fX12_140 zs117 ?_
      refine z_al0 eX12_next_228 ?_
      refine z_gi eX12_next_229 fX12_143 zs117 ?_
      refine z_isubN eX12_next_232 (by omega) (by omega) ?_
      refine z_ki eX12_next_233 ?_
      refine z_cge eX12_next_234 rfl (fun c234 => ?_) (fun c234 => ?_)
      · refine z_al0 eX12_next_260 ?_
        refine z_dup eX12_next_261 zn2 ?_
        refine z_gi eX12_next_262 fX12_140 zs117 ?_
        rw [e16]
        refine z_ki eX12_next_265 ?_
        refine z_iaddN eX12_next_266 (by omega) (by omega) ?_
        refine z_pi eX12_next_267 pX12_140 zs117 ?_
        refine z_goto eX12_next_270 rfl ?_
        obtain ⟨r2, e0⟩ : ∃ r2, r = r2 + 1 := ⟨r - 1, by omega⟩
        refine ih r2 (by omega) (n + 1) _ (by omega) (by rw [hE, e0, dgF_t zb]; rfl) (F.up (by omega) _) (by rw [zup_ne (by decide)]; exact e15) (by rw [zup_at]; omega) (fun h8 => ?_) (fun i i1 i2 => ?_)
        · omega
        · by_cases z : i = a + n
          · rw [z]; exact zb
          · exact hl i i1 (by omega)
      · refine z_al0 eX12_next_237 ?_
        refine z_ki eX12_next_238 ?_
        refine z_al0 eX12_next_240 ?_
        refine z_gi eX12_next_241 fX12_168 zs117 ?_
        rw [e17 (by omega)]
        have w := nuF_b (B := B) (a := a) n hl
        have wp : 10 ^ n ≤ 10 ^ 2 := Nat.pow_le_pow_right (by omega) (by omega)
        refine z_imulN eX12_next_244 (by omega) (by omega) ?_
        refine z_al0 eX12_next_245 ?_
        refine z_al0 eX12_next_246 ?_
        refine z_gi eX12_next_247 fX12_140 zs117 ?_
        rw [e16]
        refine zc_vi1 eX12_next_250 lX12_146 tX12_look zs117 (by decide) (Nat.le_of_ble_eq_true rfl) (r_lk _ B L gB _) ?_
        rintro _ _ ⟨rfl, rfl⟩ -
        refine z_iaddN eX12_next_253 (by omega) (by omega) ?_
        refine z_ki eX12_next_254 ?_
        refine z_isubN eX12_next_256 (by omega) (by omega) ?_
        refine z_pi eX12_next_257 pX12_168 zs117 ?_
        refine z_al0 eX12_next_260 ?_
        refine z_dup eX12_next_261 zn2 ?_
        refine z_gi eX12_next_262 fX12_140 zs117 ?_
        rw [zup_ne (by decide), e16]
        refine z_ki eX12_next_265 ?_
        refine z_iaddN eX12_next_266 (by omega) (by omega) ?_
        refine z_pi eX12_next_267 pX12_140 zs117 ?_
        refine z_goto eX12_next_270 rfl ?_
        obtain ⟨r2, e0⟩ : ∃ r2, r = r2 + 1 := ⟨r - 1, by omega⟩
        refine ih r2 (by omega) (n + 1) _ (by omega) (by rw [hE, e0, dgF_t zb]; rfl) ((F.up (by omega) _).up (by omega) _) (by rw [zup_ne (by decide), zup_ne (by decide)]; exact e15) (by rw [zup_at]; omega) (fun h8 => ?_) (fun i i1 i2 => ?_)
        · rw [zup_ne (by decide), zup_at, el, nuF]; omega
        · by_cases z : i = a + n
          · rw [z]; exact zb
          · exact hl i i1 (by omega)
theorem r_nx_2 (h : zHp) (B : Nat → Int) (L : Nat) (hB : mB h B L) (a : Nat) (ha : a ≤ L) (g : zHp) (F : mFr h g) (e15 : g 117 15 = (a : Int)) : zRW mX12_next 1 (0, 0) 58 [zA 117, zU] [] 143 g (zqv (fun h' => mFr h h' ∧ mTa B L a h')) := by
  refine z_al0 eX12_next_58 ?_
  refine z_al0 eX12_next_59 ?_
  refine z_gi eX12_next_60 fX12_143 zs117 ?_
  rw [e15]
  refine z_pi eX12_next_63 pX12_140 zs117 ?_
  generalize hg1 : zup g 117 16 (a : Int) = f
  have F1 : mFr h f := by rw [← hg1]; exact F.up (by omega) _
  have f15 : f 117 15 = (a : Int) := by rw [← hg1, zup_ne (by decide)]; exact e15
  have f16 : f 117 16 = (a : Int) := by rw [← hg1, zup_at]
  clear hg1
  have gL : f 117 9 = (L : Int) := (F1.2 9 (by omega)).trans hB.1
  have gB := hB.fr F1
  have hL := hB.2.1
  refine z_al0 eX12_next_66 ?_
  refine z_gi eX12_next_67 fX12_143 zs117 ?_
  refine z_al0 eX12_next_70 ?_
  refine z_gi eX12_next_71 fX12_137 zs117 ?_
  refine z_clt eX12_next_74 rfl (fun c74 => ?_) (fun c74 => ?_)
  · have na : ¬ a = L := by omega
    have ql := lk_i gB (show a < L by omega)
    refine z_al0 eX12_next_83 ?_
    refine z_al0 eX12_next_84 ?_
    refine z_gi eX12_next_85 fX12_143 zs117 ?_
    rw [f15]
    refine zc_vi1 eX12_next_88 lX12_146 tX12_look zs117 (by decide) (Nat.le_of_ble_eq_true rfl) (r_lk _ B L gB _) ?_
    rintro _ _ ⟨rfl, rfl⟩ -
    refine z_is1 eX12_next_91 zn2 ?_
    refine z_il1 eX12_next_92 ?_
    refine zc_si1 eX12_next_93 lX12_152 tX12_isLetter (by decide) (Nat.le_of_ble_eq_true rfl) (r_isLetter _ _) ?_
    rintro _ _ ⟨rfl, rfl⟩ -
    refine z_ieq eX12_next_96 rfl (fun c96 => ?_) (fun c96 => ?_)
    · have z96 := iteF c96
      have nl : ¬ (97 ≤ B a ∧ B a ≤ 122) := by omega
      refine z_il1 eX12_next_198 ?_
      refine zc_si1 eX12_next_199 lX12_165 tX12_isDigit (by decide) (Nat.le_of_ble_eq_true rfl) (r_isDigit _ _) ?_
      rintro _ _ ⟨rfl, rfl⟩ -
      refine z_ieq eX12_next_202 rfl (fun c202 => ?_) (fun c202 => ?_)
      · have z202 := iteF c202
        have nd : ¬ (48 ≤ B a ∧ B a ≤ 57) := by omega
        have k3 := kK_3 na nl nd
        refine z_al0 eX12_next_298 ?_
        refine z_al0 eX12_next_299 ?_
        refine z_gi eX12_next_300 fX12_143 zs117 ?_
        rw [f15]
        refine z_ki eX12_next_303 ?_
        refine z_iaddN eX12_next_304 (by omega) (by omega) ?_
        refine z_pi eX12_next_305 pX12_140 zs117 ?_
        refine z_al0 eX12_next_308 ?_
        refine z_il1 eX12_next_309 ?_
        refine z_ki eX12_next_310 ?_
        refine z_cne eX12_next_312 rfl (fun c312 => ?_) (fun c312 => ?_)
        · refine z_ki eX12_next_319 ?_
          refine z_pi eX12_next_320 pX12_149 zs117 ?_
          refine ze_v eX12_next_323 rfl ?_
          rw [if_neg (by omega)] at k3
          refine ⟨(F1.up (by omega) _).up (by omega) _, by rw [zup_at, k3.1], by rw [zup_ne (by decide), zup_ne (by decide)]; exact f15, fun z => by omega, fun z => by omega, fun z => by rw [zup_ne (by decide), zup_at, k3.2]; omega⟩
        · refine z_ki eX12_next_315 ?_
          refine z_goto eX12_next_316 rfl ?_
          refine z_pi eX12_next_320 pX12_149 zs117 ?_
          refine ze_v eX12_next_323 rfl ?_
          rw [if_pos (by omega)] at k3
          refine ⟨(F1.up (by omega) _).up (by omega) _, by rw [zup_at, k3.1], by rw [zup_ne (by decide), zup_ne (by decide)]; exact f15, fun z => by omega, fun z => by omega, fun z => by rw [zup_ne (by decide), zup_at, k3.2]; omega⟩
      · have z202 := iteT c202
        have kd : 48 ≤ B a ∧ B a ≤ 57 := by omega
        refine z_al0 eX12_next_205 ?_
        refine z_ki eX12_next_206 ?_
        refine z_pi eX12_next_207 pX12_168 zs117 ?_
        exact r_nx_d h B L hB a _ na kd (L - a) 0 _ (by omega) (kE_2 na kd) (F1.up (by omega) _) (by rw [zup_ne (by decide)]; exact f15) (by rw [zup_ne (by decide)]; exact f16) (fun _ => zup_at _ _ _ _) (fun i i1 i2 => by omega)
    · have z96 := iteT c96
      have kl : 97 ≤ B a ∧ B a ≤ 122 := by omega
      refine z_al0 eX12_next_99 ?_
      refine z_ki eX12_next_100 ?_
      refine z_pi eX12_next_101 pX12_149 zs117 ?_
      refine z_al0 eX12_next_104 ?_
      refine z_kj eX12_next_105 ?_
      refine z_pj eX12_next_106 pX12_155 zs117 ?_
      exact r_nx_w h B L hB a _ (kK_1 na kl) (L - a) 0 _ (by omega) (kE_1 na kl) ((F1.up (by omega) _).up (by omega) _) (by rw [zup_ne (by decide), zup_at]) (by rw [zup_ne (by decide), zup_ne (by decide)]; exact f15) (by rw [zup_ne (by decide), zup_ne (by decide)]; exact f16) (fun _ => zup_at _ _ _ _) (fun z => by omega) (fun i i1 i2 => by omega)
  · refine z_al0 eX12_next_77 ?_
    refine z_ki eX12_next_78 ?_
    refine z_pi eX12_next_79 pX12_149 zs117 ?_
    refine ze_v eX12_next_82 rfl ?_
    have ea : a = L := by omega
    refine ⟨F1.up (by omega) _, by rw [zup_at, kK_0 ea], by rw [zup_ne (by decide)]; exact f15, fun z => by rw [kK_0 ea] at z; omega, fun z => by rw [kK_0 ea] at z; omega, fun _ => by rw [zup_ne (by decide), kE_0 ea, f16, ea]⟩
theorem r_nx_1 (h : zHp) (B : Nat → Int) (L : Nat) (hB : mB h B L) : ∀ (r q : Nat) (g : zHp), q + r = L → mFr h g → g 117 15 = (q : Int) → zRW mX12_next 1 (0, 0) 8 [zA 117, zU] [] 143 g (zqv (fun h' => mFr h h' ∧ mTa B L (skF B r q) h')) := by
  intro r
  induction r using Nat.strongRecOn with
  | ind r ih =>
    intro q g hk F e15
    have gL : g 117 9 = (L : Int) := (F.2 9 (by omega)).trans hB.1
    have gB := hB.fr F
    have hL := hB.2.1
    refine z_al0 eX12_next_8 ?_
    refine z_gi eX12_next_9 fX12_143 zs117 ?_
    refine z_al0 eX12_next_12 ?_
    refine z_gi eX12_next_13 fX12_137 zs117 ?_
    refine z_cge eX12_next_16 rfl (fun c16 => ?_) (fun c16 => ?_)
    · have eE : skF B r q = q := by
        have e0 : r = 0 := by omega
        rw [e0]; rfl
      rw [eE]
      exact r_nx_2 h B L hB q (by omega) g F e15
    · have ql := lk_i gB (show q < L by omega)
      refine z_al0 eX12_next_19 ?_
      refine z_al0 eX12_next_20 ?_
      refine z_gi eX12_next_21 fX12_143 zs117 ?_
      rw [e15]
      refine zc_vi1 eX12_next_24 lX12_146 tX12_look zs117 (by decide) (Nat.le_of_ble_eq_true rfl) (r_lk _ B L gB _) ?_
      rintro _ _ ⟨rfl, rfl⟩ -
      refine z_ki eX12_next_27 ?_
      refine z_ceq eX12_next_29 rfl (fun c29 => ?_) (fun c29 => ?_)
      · refine z_al0 eX12_next_45 ?_
        refine z_dup eX12_next_46 zn2 ?_
        refine z_gi eX12_next_47 fX12_143 zs117 ?_
        rw [e15]
        refine z_ki eX12_next_50 ?_
        refine z_iaddN eX12_next_51 (by omega) (by omega) ?_
        refine z_pi eX12_next_52 pX12_143 zs117 ?_
        refine z_goto eX12_next_55 rfl ?_
        obtain ⟨r2, e0⟩ : ∃ r2, r = r2 + 1 := ⟨r - 1, by omega⟩
        rw [e0, skF_t (by omega)]
        exact ih r2 (by omega) (q + 1) _ (by omega) (F.up (by omega) _) (by rw [zup_at]; omega)
      · refine z_al0 eX12_next_32 ?_
        refine z_al0 eX12_next_33 ?_
        refine z_gi eX12_next_34 fX12_143 zs117 ?_
        rw [e15]
        refine zc_vi1 eX12_next_37 lX12_146 tX12_look zs117 (by decide) (Nat.le_of_ble_eq_true rfl) (r_lk _ B L gB _) ?_
        rintro _ _ ⟨rfl, rfl⟩ -
        refine z_ki eX12_next_40 ?_
        refine z_cne eX12_next_42 rfl (fun c42 => ?_) (fun c42 => ?_)
        · have eE : skF B r q = q := by
            obtain ⟨r2, e0⟩ : ∃ r2, r = r2 + 1 := ⟨r - 1, by omega⟩
            rw [e0]
            exact skF_f (by omega)
          rw [eE]
          exact r_nx_2 h B L hB q (by omega) g F e15
        · refine z_al0 eX12_next_45 ?_
          refine z_dup eX12_next_46 zn2 ?_
          refine z_gi eX12_next_47 fX12_143 zs117 ?_
          rw [e15]
          refine z_ki eX12_next_50 ?_
          refine z_iaddN eX12_next_51 (by omega) (by omega) ?_
          refine z_pi eX12_next_52 pX12_143 zs117 ?_
          refine z_goto eX12_next_55 rfl ?_
          obtain ⟨r2, e0⟩ : ∃ r2, r = r2 + 1 := ⟨r - 1, by omega⟩
          rw [e0, skF_t (by omega)]
          exact ih r2 (by omega) (q + 1) _ (by omega) (F.up (by omega) _) (by rw [zup_at]; omega)
theorem r_next (h : zHp) (B : Nat → Int) (L : Nat) (hB : mB h B L) (q : Nat) (hq : q ≤ L) (e16 : h 117 16 = (q : Int)) : zCv mX12_next 1 [zA 117] h (fun h' => mFr h h' ∧ mTa B L (tkA B L q) h') := by
  refine z_enter [zA 117, zU] (by decide +kernel) (Nat.le_of_ble_eq_true rfl) rfl (fun hra hrg => ?_)
  refine z_al0 eX12_next_0 ?_
  refine z_al0 eX12_next_1 ?_
  refine z_gi eX12_next_2 fX12_140 zs117 ?_
  rw [e16]
  refine z_pi eX12_next_5 pX12_143 zs117 ?_
  exact r_nx_1 h B L hB (L - q) q _ (by omega) (mFr.rf.up (by omega) _) (zup_at _ _ _ _)
