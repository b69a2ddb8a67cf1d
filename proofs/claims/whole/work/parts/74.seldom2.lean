-- seldom: the calls (written by wip/tools/specD5.py)
def cSel (D : Nat → Int) (a m : Int) : Int := if 0 ≤ a ∧ a < D 0 then (if (0 ≤ m ∧ m ≤ 12) ∧ m ≤ allV D then (if 99 < allV D ∨ 8 < D 1 then 7 else 0) else 5) else 2
def sO (D : Nat → Int) (a m : Int) : Nat := sF D a (nS D) 0 m.toNat (inOf D) 1
def sU (D : Nat → Int) (m : Int) : Nat := chF (allV D).toNat m.toNat
theorem sel_b {D : Nat → Int} (hb : dB D) (a : Int) {m : Nat} (hm : m ≤ 12) (h99 : allV D ≤ 99) (hmv : (m : Int) ≤ allV D) : sB D (nS D) 0 m 1 0 ∧ sF D a (nS D) 0 m (inOf D) 1 ≤ chF (allV D).toNat m ∧ 0 < chF (allV D).toNat m ∧ chF (allV D).toNat m < 9223372036854775808 := by
  have hr := rst_all hb
  have h0 : 0 ≤ allV D := (vB_sum3960 hb (inOf_b hb)).1
  have e : rst D (nS D) 0 = (allV D).toNat := by omega
  have hl := pas_lt (n := rst D (nS D) 0) (k := m) (by omega) (by omega)
  have hc := ch_at (n := (allV D).toNat) (k := m) (by omega) (by omega)
  have hs := sF_b (D := D) (a := a) (nS D) 0 m (inOf D) 1
  rw [Nat.one_mul, e, ← chF_pas] at hs
  exact ⟨⟨⟨0, 0, by omega, by omega, Nat.le_refl _⟩, by omega⟩, hs, (hc.2 (by omega)).1, by omega⟩
theorem x_struck (h : zHp) (H : rHR h) (a : Int) (m : Nat) (hm : m ≤ 12) (h99 : allV (h 122) ≤ 99) (hmv : (m : Int) ≤ allV (h 122)) : zCv mX1_struck 25 [zA 63, zI a, zI m] h (fun h' => h' 63 5 = frT (sO (h 122) a m) (sU (h 122) m) ∧ h' 63 6 = frB (sO (h 122) a m) (sU (h 122) m) ∧ zEx [9] h h' ∧ (∀ c : Nat, 117 ≤ c → h' c = h c) ∧ h' 0 0 = h 0 0) := by
  refine z_enter [zA 63, zI a, zI m] (by decide +kernel) (Nat.le_of_ble_eq_true rfl) rfl (fun hra hrg => ?_)
  obtain ⟨⟨hb, hst, e0, e1, e7, ek, es, eo, hp⟩, hru⟩ := id H
  have hN := nN_eq hb
  have hS := nS_eq hb
  have hN8 := nN_le hb
  have hS20 := nS_le hb
  have hb2 := hb.2.2.1
  have h0v : 0 ≤ allV (h 122) := (vB_sum3960 hb (inOf_b hb)).1
  obtain ⟨sb1, sb2, sb3, sb4⟩ := sel_b hb a hm h99 hmv
  have hg1 : zXf h (zcp (zup (zup h 63 3 a) 63 4 0) 9 0 64 0 20) := ((zXf.rf.up (by omega) (by omega) rfl).up (by omega) (by omega) rfl).fr (fun c hc => zcp_off hc) (by decide) (fun _ => rfl)
  have hw1 : wIs (h 122) (zcp (zup (zup h 63 3 a) 63 4 0) 9 0 64 0 20) 64 (inOf (h 122)) := fun j hj => by
    rw [zcp_on (by omega), zup_off (by decide), zup_off (by decide)]
    exact ⟨(es j hj).1, inOf_b hb j hj⟩
  refine z_al0 eX1_struck_0 ?_
  refine z_il1 eX1_struck_1 ?_
  refine z_pi eX1_struck_2 pX1_30 zs63 ?_
  refine z_al0 eX1_struck_5 ?_
  refine z_kj eX1_struck_6 ?_
  refine z_pj eX1_struck_7 pX1_34 zs63 ?_
  refine z_al0 eX1_struck_10 ?_
  refine z_ga eX1_struck_11 fX1_22 zs63 (t := 4) rfl ?_
  refine z_ga eX1_struck_14 fX1_69 zs4 (t := 9) rfl ?_
  refine z_ki eX1_struck_17 ?_
  refine z_al0 eX1_struck_18 ?_
  refine z_ga eX1_struck_19 fX1_9 zs63 (t := 64) rfl ?_
  refine z_ki eX1_struck_22 ?_
  refine z_ki eX1_struck_23 ?_
  refine zy_i eX1_struck_25 lX1_82 (Or.inl rfl) zs9 zs64 (by decide) (by decide) (by decide) (by decide) (by decide) (by decide) (Nat.le_of_ble_eq_true rfl) ?_
  change zRW _ _ _ _ _ _ _ (zcp (zup (zup h 63 3 a) 63 4 0) 9 0 64 0 20) _
  refine z_al0 eX1_struck_28 ?_
  refine z_ki eX1_struck_29 ?_
  refine z_il2 eX1_struck_30 ?_
  refine z_kj eX1_struck_31 ?_
  refine zc_sv4 eX1_struck_32 lX1_88 tX1_strike (by decide) (Nat.le_of_ble_eq_true rfl) ((x_st (h 122) hb hst a (nS (h 122)) 0 m (inOf (h 122)) 1 0 _ (by omega) ⟨H.xf hg1, hg1.2.1 122 (by omega), by rw [zcp_off (by decide), zup_ne (by decide), zup_at]⟩ hw1 (fun j j1 j2 => by have := inOf_b hb j (by omega); unfold inN; unfold inOf at this ⊢; omega) (by rw [zcp_off (by decide), zup_at]; rfl) sb1).mono (show 4 + nS (h 122) ≤ 24 by omega)) ?_
  rintro g2 ⟨s4, hx2, -, Hx2⟩
  have hg2 := hg1.tr hx2
  rw [Nat.zero_add] at s4
  refine z_al0 eX1_struck_35 ?_
  refine z_al0 eX1_struck_36 ?_
  refine z_gj eX1_struck_37 fX1_34 zs63 ?_
  rw [s4]
  refine z_al0 eX1_struck_40 ?_
  refine z_ga eX1_struck_41 fX1_22 zs63 (t := 4) rfl ?_
  refine zc_vi0 eX1_struck_44 lX1_43 tX5_votersIn zs4 (by decide) (Nat.le_of_ble_eq_true rfl) (x_votersIn g2 Hx2.1) ?_
  rw [Hx2.2.1]
  rintro _ _ ⟨rfl, rfl⟩ -
  refine z_il2 eX1_struck_47 ?_
  rw [show allV (h 122) = (((allV (h 122)).toNat : Nat) : Int) by omega]
  refine zc_sj2 eX1_struck_48 lX1_78 tX1_choose (by decide) (Nat.le_of_ble_eq_true rfl) (x_choose _ (allV (h 122)).toNat m (by omega) (by omega) (by omega)) ?_
  rintro _ _ ⟨rfl, rfl⟩ -
  refine zc_vv2 eX1_struck_51 lX1_53 tX1_tell zs63 (by decide) (Nat.le_of_ble_eq_true rfl) (x_tell _ (sF (h 122) a (nS (h 122)) 0 m (inOf (h 122)) 1) (chF (allV (h 122)).toNat m) sb2 sb3 sb4) ?_
  rintro _ rfl
  refine ze_v eX1_struck_54 rfl ?_
  refine ⟨by rw [zup_ne (by decide), zup_at]; rfl, by rw [zup_at]; rfl, zEx.up (zEx.up (hg2.1.wk (by simp)) (Or.inr (show 9 ∈ [9] by decide))) (Or.inr (show 9 ∈ [9] by decide)), fun c hc => by rw [zup_off (by omega), zup_off (by omega)]; exact hg2.2.1 c hc, by rw [zup_off (by decide), zup_off (by decide)]; exact hg2.2.2⟩
theorem x_seldom (h : zHp) (H : rHR h) (a m : Int) : zCi mX11_seldom 26 [zA 0, zI a, zI m] h (fun v h' => pXL [9] ((qC (cSel (h 122) a m)).1 = 1) h (qC (cSel (h 122) a m)) (fun f => f 63 5 = frT (sO (h 122) a m) (sU (h 122) m) ∧ f 63 6 = frB (sO (h 122) a m) (sU (h 122) m)) v h') := by
  refine z_enter [zA 0, zI a, zI m, zU] (by decide +kernel) (Nat.le_of_ble_eq_true rfl) rfl (fun hra hrg => ?_)
  obtain ⟨⟨hb, hst, e0, e1, e7, ek, es, eo, hp⟩, hru⟩ := id H
  have hN := nN_eq hb
  have hS := nS_eq hb
  have hN8 := nN_le hb
  have hS20 := nS_le hb
  have hb2 := hb.2.2.1
  refine z_al0 eX11_seldom_0 ?_
  refine z_il1 eX11_seldom_1 ?_
  refine zc_vi1 eX11_seldom_2 lX11_224 tX11_isName zs0 (by decide) (Nat.le_of_ble_eq_true rfl) (x_isName _ H _) ?_
  rintro _ _ ⟨rfl, rfl⟩ -
  refine z_ine eX11_seldom_5 rfl (fun c5 => ?_) (fun c5 => ?_)
  · have z5 := iteT c5
    refine z_al0 eX11_seldom_14 ?_
    refine z_ga eX11_seldom_15 fX11_25 zs0 (t := 4) rfl ?_
    refine zc_vi0 eX11_seldom_18 lX11_218 tX5_votersIn zs4 (by decide) (Nat.le_of_ble_eq_true rfl) (x_votersIn _ H) ?_
    rintro _ _ ⟨rfl, rfl⟩ -
    refine z_is3 eX11_seldom_21 zn0 ?_
    refine z_il2 eX11_seldom_22 ?_
    refine z_ilt eX11_seldom_23 rfl (fun c23 => ?_) (fun c23 => ?_)
    · refine z_al0 eX11_seldom_37 ?_
      refine z_ki eX11_seldom_38 ?_
      refine zc_vi1 eX11_seldom_39 lX11_134 tX11_deny zs0 (by decide) (Nat.le_of_ble_eq_true rfl) (x_deny _ _) ?_
      rintro _ _ ⟨rfl, rfl⟩ -
      refine ze_z eX11_seldom_42 rfl (by first | exact Or.inl rfl | exact Or.inr rfl) ?_
      have ec : cSel (h 122) a m = 5 := by unfold cSel; rw [if_pos z5, if_neg (by omega)]
      have eq : qC (cSel (h 122) a m) = (0, 5) := by rw [ec]; rfl
      exact pXL_no zXf.rf eq (by rw [eq]; decide)
    · refine z_il2 eX11_seldom_26 ?_
      refine z_ki eX11_seldom_27 ?_
      refine z_cgt eX11_seldom_29 rfl (fun c29 => ?_) (fun c29 => ?_)
      · refine z_al0 eX11_seldom_37 ?_
        refine z_ki eX11_seldom_38 ?_
        refine zc_vi1 eX11_seldom_39 lX11_134 tX11_deny zs0 (by decide) (Nat.le_of_ble_eq_true rfl) (x_deny _ _) ?_
        rintro _ _ ⟨rfl, rfl⟩ -
        refine ze_z eX11_seldom_42 rfl (by first | exact Or.inl rfl | exact Or.inr rfl) ?_
        have ec : cSel (h 122) a m = 5 := by unfold cSel; rw [if_pos z5, if_neg (by omega)]
        have eq : qC (cSel (h 122) a m) = (0, 5) := by rw [ec]; rfl
        exact pXL_no zXf.rf eq (by rw [eq]; decide)
      · refine z_il2 eX11_seldom_32 ?_
        refine z_il3 eX11_seldom_33 ?_
        refine z_cle eX11_seldom_34 rfl (fun c34 => ?_) (fun c34 => ?_)
        · refine z_il3 eX11_seldom_43 ?_
          refine z_ki eX11_seldom_44 ?_
          refine z_cgt eX11_seldom_46 rfl (fun c46 => ?_) (fun c46 => ?_)
          · refine z_al0 eX11_seldom_61 ?_
            refine z_ki eX11_seldom_62 ?_
            refine zc_vi1 eX11_seldom_64 lX11_134 tX11_deny zs0 (by decide) (Nat.le_of_ble_eq_true rfl) (x_deny _ _) ?_
            rintro _ _ ⟨rfl, rfl⟩ -
            refine ze_z eX11_seldom_67 rfl (by first | exact Or.inl rfl | exact Or.inr rfl) ?_
            have ec : cSel (h 122) a m = 7 := by unfold cSel; rw [if_pos z5, if_pos (by omega), if_pos (by omega)]
            have eq : qC (cSel (h 122) a m) = (0, 7) := by rw [ec]; rfl
            exact pXL_no zXf.rf eq (by rw [eq]; decide)
          · refine z_al0 eX11_seldom_49 ?_
            refine z_ga eX11_seldom_50 fX11_25 zs0 (t := 4) rfl ?_
            refine z_gi eX11_seldom_53 fX11_123 zs4 ?_
            refine z_ki eX11_seldom_56 ?_
            refine z_cle eX11_seldom_58 rfl (fun c58 => ?_) (fun c58 => ?_)
            · obtain ⟨m, rfl⟩ := Int.eq_ofNat_of_zero_le (show 0 ≤ m by omega)
              refine z_al0 eX11_seldom_68 ?_
              refine z_ga eX11_seldom_69 fX11_95 zs0 (t := 63) rfl ?_
              refine z_il1 eX11_seldom_72 ?_
              refine z_il2 eX11_seldom_73 ?_
              refine zc_vv2 eX11_seldom_74 lX11_355 tX1_struck zs63 (by decide) (Nat.le_of_ble_eq_true rfl) (x_struck h H a m (by omega) (by omega) (by omega)) ?_
              rintro g ⟨f5, f6, fx, f117, f0⟩
              refine z_al0 eX11_seldom_77 ?_
              refine zc_vi0 eX11_seldom_78 lX11_141 tX11_agree zs0 (by decide) (Nat.le_of_ble_eq_true rfl) (x_agree _) ?_
              rintro _ _ ⟨rfl, rfl⟩ -
              refine ze_z eX11_seldom_81 rfl (by first | exact Or.inl rfl | exact Or.inr rfl) ?_
              have ec : cSel (h 122) a m = 0 := by unfold cSel; rw [if_pos z5, if_pos (by omega), if_neg (by omega)]
              rw [qC_0 ec]
              refine ⟨rfl, zup_at _ _ _ _, fun b hb2 => (zup_off (by omega)).trans (f117 b hb2), fun _ => ⟨fx.up (Or.inl rfl), ?_, ?_⟩, fun z => absurd rfl z⟩
              · rw [zup_off (by decide)]; exact f5
              · rw [zup_off (by decide)]; exact f6
            · refine z_al0 eX11_seldom_61 ?_
              refine z_ki eX11_seldom_62 ?_
              refine zc_vi1 eX11_seldom_64 lX11_134 tX11_deny zs0 (by decide) (Nat.le_of_ble_eq_true rfl) (x_deny _ _) ?_
              rintro _ _ ⟨rfl, rfl⟩ -
              refine ze_z eX11_seldom_67 rfl (by first | exact Or.inl rfl | exact Or.inr rfl) ?_
              have ec : cSel (h 122) a m = 7 := by unfold cSel; rw [if_pos z5, if_pos (by omega), if_pos (by omega)]
              have eq : qC (cSel (h 122) a m) = (0, 7) := by rw [ec]; rfl
              exact pXL_no zXf.rf eq (by rw [eq]; decide)
        · refine z_al0 eX11_seldom_37 ?_
          refine z_ki eX11_seldom_38 ?_
          refine zc_vi1 eX11_seldom_39 lX11_134 tX11_deny zs0 (by decide) (Nat.le_of_ble_eq_true rfl) (x_deny _ _) ?_
          rintro _ _ ⟨rfl, rfl⟩ -
          refine ze_z eX11_seldom_42 rfl (by first | exact Or.inl rfl | exact Or.inr rfl) ?_
          have ec : cSel (h 122) a m = 5 := by unfold cSel; rw [if_pos z5, if_neg (by omega)]
          have eq : qC (cSel (h 122) a m) = (0, 5) := by rw [ec]; rfl
          exact pXL_no zXf.rf eq (by rw [eq]; decide)
  · have z5 := iteF c5
    refine z_al0 eX11_seldom_8 ?_
    refine z_ki eX11_seldom_9 ?_
    refine zc_vi1 eX11_seldom_10 lX11_134 tX11_deny zs0 (by decide) (Nat.le_of_ble_eq_true rfl) (x_deny _ _) ?_
    rintro _ _ ⟨rfl, rfl⟩ -
    refine ze_z eX11_seldom_13 rfl (by first | exact Or.inl rfl | exact Or.inr rfl) ?_
    have ec : cSel (h 122) a m = 2 := by unfold cSel; rw [if_neg z5]
    have eq : qC (cSel (h 122) a m) = (0, 2) := by rw [ec]; rfl
    exact pXL_no zXf.rf eq (by rw [eq]; decide)
theorem r_seldom (h : zHp) (D : Nat → Int) (hD : h 122 = D) (hb : dB D) (hst : D 2 < ((2 ^ nN D : Nat) : Int)) (a m : Int) : zCi mX12_seldom 28 [zA 117, zI a, zI m] h (fun v h' => pML [9] ((qC (cSel D a m)).1 = 1) h (qC (cSel D a m)) (fun f => f 117 2 = frT (sO D a m) (sU D m) ∧ f 117 3 = frB (sO D a m) (sU D m)) v h') := by
  refine z_enter [zA 117, zI a, zI m, zU] (by decide +kernel) (Nat.le_of_ble_eq_true rfl) rfl (fun hra hrg => ?_)
  refine z_al0 eX12_seldom_0 ?_
  refine z_ki eX12_seldom_1 ?_
  refine z_pi eX12_seldom_2 pX12_98 zs117 ?_
  refine z_al0 eX12_seldom_5 ?_
  refine z_ki eX12_seldom_6 ?_
  refine z_pi eX12_seldom_7 pX12_101 zs117 ?_
  generalize hg : zup (zup h 117 1 0) 117 0 0 = g
  obtain ⟨ga, gf, g0⟩ := m_g hg
  have gD : g 122 = D := (ga 122 (by decide)).trans hD
  subst gD
  have hN := nN_eq hb
  have hS := nS_eq hb
  have hN8 := nN_le hb
  have hS20 := nS_le hb
  have hb2 := hb.2.2.1
  refine z_al0 eX12_seldom_10 ?_
  refine z_il1 eX12_seldom_11 ?_
  refine zc_vi1 eX12_seldom_12 lX12_278 tX12_isName zs117 (by decide) (Nat.le_of_ble_eq_true rfl) (r_isName _ _ rfl hb _) ?_
  rintro _ _ ⟨rfl, rfl⟩ -
  refine z_ine eX12_seldom_15 rfl (fun c15 => ?_) (fun c15 => ?_)
  · have z15 := iteT c15
    refine z_al0 eX12_seldom_24 ?_
    refine zc_vi0 eX12_seldom_25 lX12_272 tX12_allIn zs117 (by decide) (Nat.le_of_ble_eq_true rfl) (r_allIn _ _ rfl hb) ?_
    rintro _ _ ⟨rfl, rfl⟩ -
    rw [show sumN (inOf (g 122)) (nS (g 122)) = allV (g 122) from rfl]
    refine z_is3 eX12_seldom_28 zn0 ?_
    refine z_il2 eX12_seldom_29 ?_
    refine z_i2l eX12_seldom_30 ?_
    refine z_kj eX12_seldom_31 ?_
    refine z_kj eX12_seldom_32 ?_
    refine zc_si3 eX12_seldom_35 lX12_133 tX12_isIn (by decide) (Nat.le_of_ble_eq_true rfl) (r_isIn _ _ _ _) ?_
    rintro _ _ ⟨rfl, rfl⟩ -
    refine z_ieq eX12_seldom_38 rfl (fun c38 => ?_) (fun c38 => ?_)
    · have z38 := iteF c38
      refine z_al0 eX12_seldom_46 ?_
      refine z_ki eX12_seldom_47 ?_
      refine zc_vi1 eX12_seldom_48 lX12_113 tX12_no zs117 (by decide) (Nat.le_of_ble_eq_true rfl) (r_no _ _) ?_
      rintro _ _ ⟨rfl, rfl⟩ -
      refine ze_z eX12_seldom_51 rfl (by first | exact Or.inl rfl | exact Or.inr rfl) ?_
      have ec : cSel (g 122) a m = 5 := by unfold cSel; rw [if_pos z15, if_neg (by omega)]
      have eq : qC (cSel (g 122) a m) = (0, 5) := by rw [ec]; rfl
      exact pML_no hg zMf.rf eq (by rw [eq]; decide)
    · have z38 := iteT c38
      refine z_il2 eX12_seldom_41 ?_
      refine z_il3 eX12_seldom_42 ?_
      refine z_cle eX12_seldom_43 rfl (fun c43 => ?_) (fun c43 => ?_)
      · refine z_il3 eX12_seldom_52 ?_
        refine z_ki eX12_seldom_53 ?_
        refine z_cgt eX12_seldom_55 rfl (fun c55 => ?_) (fun c55 => ?_)
        · refine z_al0 eX12_seldom_69 ?_
          refine z_ki eX12_seldom_70 ?_
          refine zc_vi1 eX12_seldom_72 lX12_113 tX12_no zs117 (by decide) (Nat.le_of_ble_eq_true rfl) (r_no _ _) ?_
          rintro _ _ ⟨rfl, rfl⟩ -
          refine ze_z eX12_seldom_75 rfl (by first | exact Or.inl rfl | exact Or.inr rfl) ?_
          have ec : cSel (g 122) a m = 7 := by unfold cSel; rw [if_pos z15, if_pos (by omega), if_pos (by omega)]
          have eq : qC (cSel (g 122) a m) = (0, 7) := by rw [ec]; rfl
          exact pML_no hg zMf.rf eq (by rw [eq]; decide)
        · refine z_al0 eX12_seldom_58 ?_
          refine z_ga eX12_seldom_59 fX12_35 zs117 (t := 122) rfl ?_
          refine z_ki eX12_seldom_62 ?_
          refine zr_iN eX12_seldom_63 zs122 (j := 1) (by omega) (by omega) ?_
          refine z_ki eX12_seldom_64 ?_
          refine z_cle eX12_seldom_66 rfl (fun c66 => ?_) (fun c66 => ?_)
          · obtain ⟨m, rfl⟩ := Int.eq_ofNat_of_zero_le z38.1
            have h0v : 0 ≤ allV (g 122) := (vB_sum3960 hb (inOf_b hb)).1
            obtain ⟨sb1, sb2, sb3, sb4⟩ := sel_b hb a (show m ≤ 12 by omega) (by omega) (show (m : Int) ≤ allV (g 122) by omega)
            refine z_al0 eX12_seldom_76 ?_
            refine z_kj eX12_seldom_77 ?_
            refine z_pj eX12_seldom_78 pX12_441 zs117 ?_
            refine z_al0 eX12_seldom_81 ?_
            refine z_ki eX12_seldom_82 ?_
            refine z_il2 eX12_seldom_83 ?_
            refine z_kj eX12_seldom_84 ?_
            refine z_il1 eX12_seldom_85 ?_
            refine zc_vv4 eX12_seldom_86 lX12_464 tX12_seldomFrom zs117 (by decide) (Nat.le_of_ble_eq_true rfl) ((r_sl (g 122) hb hst a (nS (g 122)) 0 m (inOf (g 122)) 1 0 _ (by omega) (by rw [zup_off (by decide)]) (fun j hj => by omega) (by rw [zup_at]; rfl) sb1).mono (show 7 + nS (g 122) ≤ 27 by omega)) ?_
            rintro g3 ⟨s4, hx3, -, -⟩
            have hm3 : zMf g g3 := (zMf.rf.up (by omega) (by omega) rfl).tr hx3
            rw [Nat.zero_add] at s4
            refine z_al0 eX12_seldom_89 ?_
            refine z_al0 eX12_seldom_90 ?_
            refine z_gj eX12_seldom_91 fX12_441 zs117 ?_
            rw [s4]
            refine z_il3 eX12_seldom_94 ?_
            refine z_il2 eX12_seldom_95 ?_
            rw [show allV (g 122) = (((allV (g 122)).toNat : Nat) : Int) by omega]
            refine zc_sj2 eX12_seldom_96 lX12_444 tX12_ways (by decide) (Nat.le_of_ble_eq_true rfl) (r_ways _ (allV (g 122)).toNat m (by omega) (by omega) (by omega)) ?_
            rintro _ _ ⟨rfl, rfl⟩ -
            refine zc_vv2 eX12_seldom_99 lX12_457 tX12_fraction zs117 (by decide) (Nat.le_of_ble_eq_true rfl) (r_frac _ (sF (g 122) a (nS (g 122)) 0 m (inOf (g 122)) 1) (chF (allV (g 122)).toNat m) sb2 sb3 sb4) ?_
            rintro _ rfl
            refine z_ki eX12_seldom_102 ?_
            refine ze_z eX12_seldom_103 rfl (by first | exact Or.inl rfl | exact Or.inr rfl) ?_
            have ec : cSel (g 122) a m = 0 := by unfold cSel; rw [if_pos z15, if_pos (by omega), if_neg (by omega)]
            rw [qC_0 ec]
            have r0 := pM0_f (q := ((0 : Int), (0 : Int))) hg hm3 rfl
            refine ⟨rfl, by rw [zup_ne (by decide), zup_ne (by decide)]; exact r0.2.1, fun b hb2 => by rw [zup_off (by omega), zup_off (by omega)]; exact r0.2.2.1 b hb2, fun _ => ⟨zEx.up (zEx.up (r0.2.2.2.wk (by simp)) (Or.inr (show 9 ∈ [9] by decide))) (Or.inr (show 9 ∈ [9] by decide)), ?_, ?_⟩, fun z => absurd rfl z⟩
            · rw [zup_ne (by decide), zup_at]; rfl
            · rw [zup_at]; rfl
          · refine z_al0 eX12_seldom_69 ?_
            refine z_ki eX12_seldom_70 ?_
            refine zc_vi1 eX12_seldom_72 lX12_113 tX12_no zs117 (by decide) (Nat.le_of_ble_eq_true rfl) (r_no _ _) ?_
            rintro _ _ ⟨rfl, rfl⟩ -
            refine ze_z eX12_seldom_75 rfl (by first | exact Or.inl rfl | exact Or.inr rfl) ?_
            have ec : cSel (g 122) a m = 7 := by unfold cSel; rw [if_pos z15, if_pos (by omega), if_pos (by omega)]
            have eq : qC (cSel (g 122) a m) = (0, 7) := by rw [ec]; rfl
            exact pML_no hg zMf.rf eq (by rw [eq]; decide)
      · refine z_al0 eX12_seldom_46 ?_
        refine z_ki eX12_seldom_47 ?_
        refine zc_vi1 eX12_seldom_48 lX12_113 tX12_no zs117 (by decide) (Nat.le_of_ble_eq_true rfl) (r_no _ _) ?_
        rintro _ _ ⟨rfl, rfl⟩ -
        refine ze_z eX12_seldom_51 rfl (by first | exact Or.inl rfl | exact Or.inr rfl) ?_
        have ec : cSel (g 122) a m = 5 := by unfold cSel; rw [if_pos z15, if_neg (by omega)]
        have eq : qC (cSel (g 122) a m) = (0, 5) := by rw [ec]; rfl
        exact pML_no hg zMf.rf eq (by rw [eq]; decide)
  · have z15 := iteF c15
    refine z_al0 eX12_seldom_18 ?_
    refine z_ki eX12_seldom_19 ?_
    refine zc_vi1 eX12_seldom_20 lX12_113 tX12_no zs117 (by decide) (Nat.le_of_ble_eq_true rfl) (r_no _ _) ?_
    rintro _ _ ⟨rfl, rfl⟩ -
    refine ze_z eX12_seldom_23 rfl (by first | exact Or.inl rfl | exact Or.inr rfl) ?_
    have ec : cSel (g 122) a m = 2 := by unfold cSel; rw [if_neg z15]
    have eq : qC (cSel (g 122) a m) = (0, 2) := by rw [ec]; rfl
    exact pML_no hg zMf.rf eq (by rw [eq]; decide)
