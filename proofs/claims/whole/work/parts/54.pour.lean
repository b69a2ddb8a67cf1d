-- pour, feed, stand, voters (written by wip/tools/specT3.py)
theorem x_pour (h : zHp) (H : rTray h) (t i u j n : Int) : zCi mX11_pour 1 [zA 0, zI t, zI i, zI u, zI j, zI n] h (fun v h' => (cPour h t i u j n = 0 → (1 : Int) = v ∧ zup (zcp h (68 + 2 * t.toNat) i.toNat (68 + 2 * u.toNat) j.toNat n.toNat) 0 0 0 = h') ∧ (¬ cPour h t i u j n = 0 → pX0 h (0, cPour h t i u j n) v h')) := by
  refine z_enter [zA 0, zI t, zI i, zI u, zI j, zI n, zU, zU] (by decide +kernel) (Nat.le_of_ble_eq_true rfl) rfl (fun hra hrg => ?_)
  refine z_il1 eX11_pour_0 ?_
  refine zc_si1 eX11_pour_1 lX11_130 tX11_isTray (by decide) (Nat.le_of_ble_eq_true rfl) (x_isTray _ _) ?_
  rintro _ _ ⟨rfl, rfl⟩ -
  refine z_ieq eX11_pour_4 rfl (fun c4 => ?_) (fun c4 => ?_)
  · have z4 := iteF c4
    refine z_al0 eX11_pour_14 ?_
    refine z_ki eX11_pour_15 ?_
    refine zc_vi1 eX11_pour_16 lX11_134 tX11_deny zs0 (by decide) (Nat.le_of_ble_eq_true rfl) (x_deny _ _) ?_
    rintro _ _ ⟨rfl, rfl⟩ -
    refine ze_z eX11_pour_19 rfl (by first | exact Or.inl rfl | exact Or.inr rfl) ?_
    exact pX_no zXf.rf (by unfold cPour; (repeat' split) <;> first | (exfalso; omega) | rfl) (by omega)
  · have z4 := iteT c4
    refine z_il3 eX11_pour_7 ?_
    refine zc_si1 eX11_pour_8 lX11_130 tX11_isTray (by decide) (Nat.le_of_ble_eq_true rfl) (x_isTray _ _) ?_
    rintro _ _ ⟨rfl, rfl⟩ -
    refine z_ine eX11_pour_11 rfl (fun c11 => ?_) (fun c11 => ?_)
    · have z11 := iteT c11
      obtain ⟨t, rfl⟩ := Int.eq_ofNat_of_zero_le (show 0 ≤ t by omega)
      have ht : t < 4 := by omega
      obtain ⟨u, rfl⟩ := Int.eq_ofNat_of_zero_le (show 0 ≤ u by omega)
      have hu : u < 4 := by omega
      have HT := H t ht
      have HU := H u hu
      have ht1 := HT.2.2.1
      have hu1 := HU.2.2.1
      have ht0 := HT.1
      have hu0 := HU.1
      have et : (t : Int).toNat = t := Int.toNat_natCast t
      have eu : (u : Int).toNat = u := Int.toNat_natCast u
      refine z_al0 eX11_pour_20 ?_
      refine z_ga eX11_pour_21 fX11_11 zs0 (t := 1) rfl ?_
      refine z_il1 eX11_pour_24 ?_
      refine zr_aN eX11_pour_25 zs1 (Or.inl rfl) (j := t) (by omega) (by omega) (t := (67 + 2 * t)) (zTr1 ht) ?_
      refine z_as6 eX11_pour_26 zn0 ?_
      refine z_al0 eX11_pour_28 ?_
      refine z_ga eX11_pour_29 fX11_11 zs0 (t := 1) rfl ?_
      refine z_il3 eX11_pour_32 ?_
      refine zr_aN eX11_pour_33 zs1 (Or.inl rfl) (j := u) (by omega) (by omega) (t := (67 + 2 * u)) (zTr1 hu) ?_
      refine z_as7 eX11_pour_34 zn2 ?_
      refine z_al6 eX11_pour_36 ?_
      refine z_gi eX11_pour_38 fX11_161 (zTr2 ht) ?_
      refine z_ieq eX11_pour_41 rfl (fun c41 => ?_) (fun c41 => ?_)
      · have q3 : h 119 t < 0 := by
          by_cases z : 0 ≤ h 119 t
          · rw [if_pos z] at ht1; omega
          · omega
        refine z_al0 eX11_pour_52 ?_
        refine z_ki eX11_pour_53 ?_
        refine zc_vi1 eX11_pour_54 lX11_134 tX11_deny zs0 (by decide) (Nat.le_of_ble_eq_true rfl) (x_deny _ _) ?_
        rintro _ _ ⟨rfl, rfl⟩ -
        refine ze_z eX11_pour_57 rfl (by first | exact Or.inl rfl | exact Or.inr rfl) ?_
        exact pX_no zXf.rf (by unfold cPour; rw [et, eu, if_pos (by omega), if_pos (by omega)]) (by omega)
      · refine z_al7 eX11_pour_44 ?_
        refine z_gi eX11_pour_46 fX11_161 (zTr2 hu) ?_
        refine z_ine eX11_pour_49 rfl (fun c49 => ?_) (fun c49 => ?_)
        · have hnt : 0 ≤ h 119 t := by
            by_cases z : 0 ≤ h 119 t
            · exact z
            · rw [if_neg z] at ht1; exact absurd ht1 c41
          have hnu : 0 ≤ h 119 u := by
            by_cases z : 0 ≤ h 119 u
            · exact z
            · rw [if_neg z] at hu1; exact absurd hu1 c49
          obtain ⟨T1, T2, T3⟩ := HT.2.2.2 hnt
          obtain ⟨U1, U2, U3⟩ := HU.2.2.2 hnu
          refine z_al6 eX11_pour_58 ?_
          refine z_gi eX11_pour_60 fX11_165 (zTr2 ht) ?_
          refine z_al7 eX11_pour_63 ?_
          refine z_gi eX11_pour_65 fX11_165 (zTr2 hu) ?_
          refine z_ceq eX11_pour_68 rfl (fun c68 => ?_) (fun c68 => ?_)
          · refine z_il5 eX11_pour_78 ?_
            refine z_ige eX11_pour_80 rfl (fun c80 => ?_) (fun c80 => ?_)
            · refine z_al6 eX11_pour_90 ?_
              refine z_il2 eX11_pour_92 ?_
              refine z_il5 eX11_pour_93 ?_
              refine zc_vi2 eX11_pour_95 lX11_168 tX10_has (zTr2 ht) (by decide) (Nat.le_of_ble_eq_true rfl) (x_has _ t ht (by omega) _ _) ?_
              rintro _ _ ⟨rfl, rfl⟩ -
              refine z_ieq eX11_pour_98 rfl (fun c98 => ?_) (fun c98 => ?_)
              · have z98 := iteF c98
                refine z_al0 eX11_pour_113 ?_
                refine z_ki eX11_pour_114 ?_
                refine zc_vi1 eX11_pour_115 lX11_134 tX11_deny zs0 (by decide) (Nat.le_of_ble_eq_true rfl) (x_deny _ _) ?_
                rintro _ _ ⟨rfl, rfl⟩ -
                refine ze_z eX11_pour_118 rfl (by first | exact Or.inl rfl | exact Or.inr rfl) ?_
                exact pX_no zXf.rf (by unfold cPour; rw [et, eu, if_pos (by omega), if_neg (by omega), if_neg (by omega), if_neg (by omega), if_neg (by omega)]) (by omega)
              · have z98 := iteT c98
                refine z_al7 eX11_pour_101 ?_
                refine z_il4 eX11_pour_103 ?_
                refine z_il5 eX11_pour_105 ?_
                refine zc_vi2 eX11_pour_107 lX11_168 tX10_has (zTr2 hu) (by decide) (Nat.le_of_ble_eq_true rfl) (x_has _ u hu (by omega) _ _) ?_
                rintro _ _ ⟨rfl, rfl⟩ -
                refine z_ine eX11_pour_110 rfl (fun c110 => ?_) (fun c110 => ?_)
                · have z110 := iteT c110
                  refine z_al6 eX11_pour_119 ?_
                  refine z_ga eX11_pour_121 fX11_157 (zTr2 ht) (t := (68 + 2 * t)) (zTr3 ht) ?_
                  refine z_il2 eX11_pour_124 ?_
                  refine z_al7 eX11_pour_125 ?_
                  refine z_ga eX11_pour_127 fX11_157 (zTr2 hu) (t := (68 + 2 * u)) (zTr3 hu) ?_
                  refine z_il4 eX11_pour_130 ?_
                  refine z_il5 eX11_pour_132 ?_
                  refine zy_l eX11_pour_134 lX11_172 (zTr4 ht) (zTr4 hu) (by omega) (by omega) (by omega) (by omega) (by omega) (by decide) (Nat.le_of_ble_eq_true rfl) ?_
                  refine z_al0 eX11_pour_137 ?_
                  refine zc_vi0 eX11_pour_138 lX11_141 tX11_agree zs0 (by decide) (Nat.le_of_ble_eq_true rfl) (x_agree _) ?_
                  rintro _ _ ⟨rfl, rfl⟩ -
                  refine ze_z eX11_pour_141 rfl (by first | exact Or.inl rfl | exact Or.inr rfl) ?_
                  refine pc_ok (by unfold cPour; rw [et, eu, if_pos (by omega), if_neg (by omega), if_neg (by omega), if_neg (by omega), if_pos (by omega)]) ⟨rfl, rfl⟩
                · have z110 := iteF c110
                  refine z_al0 eX11_pour_113 ?_
                  refine z_ki eX11_pour_114 ?_
                  refine zc_vi1 eX11_pour_115 lX11_134 tX11_deny zs0 (by decide) (Nat.le_of_ble_eq_true rfl) (x_deny _ _) ?_
                  rintro _ _ ⟨rfl, rfl⟩ -
                  refine ze_z eX11_pour_118 rfl (by first | exact Or.inl rfl | exact Or.inr rfl) ?_
                  exact pX_no zXf.rf (by unfold cPour; rw [et, eu, if_pos (by omega), if_neg (by omega), if_neg (by omega), if_neg (by omega), if_neg (by omega)]) (by omega)
            · refine z_al0 eX11_pour_83 ?_
              refine z_ki eX11_pour_84 ?_
              refine zc_vi1 eX11_pour_86 lX11_134 tX11_deny zs0 (by decide) (Nat.le_of_ble_eq_true rfl) (x_deny _ _) ?_
              rintro _ _ ⟨rfl, rfl⟩ -
              refine ze_z eX11_pour_89 rfl (by first | exact Or.inl rfl | exact Or.inr rfl) ?_
              exact pX_no zXf.rf (by unfold cPour; rw [et, eu, if_pos (by omega), if_neg (by omega), if_neg (by omega), if_pos (by omega)]) (by omega)
          · refine z_al0 eX11_pour_71 ?_
            refine z_ki eX11_pour_72 ?_
            refine zc_vi1 eX11_pour_74 lX11_134 tX11_deny zs0 (by decide) (Nat.le_of_ble_eq_true rfl) (x_deny _ _) ?_
            rintro _ _ ⟨rfl, rfl⟩ -
            refine ze_z eX11_pour_77 rfl (by first | exact Or.inl rfl | exact Or.inr rfl) ?_
            exact pX_no zXf.rf (by unfold cPour; rw [et, eu, if_pos (by omega), if_neg (by omega), if_pos (by omega)]) (by omega)
        · have q3 : h 119 u < 0 := by
            by_cases z : 0 ≤ h 119 u
            · rw [if_pos z] at hu1; omega
            · omega
          refine z_al0 eX11_pour_52 ?_
          refine z_ki eX11_pour_53 ?_
          refine zc_vi1 eX11_pour_54 lX11_134 tX11_deny zs0 (by decide) (Nat.le_of_ble_eq_true rfl) (x_deny _ _) ?_
          rintro _ _ ⟨rfl, rfl⟩ -
          refine ze_z eX11_pour_57 rfl (by first | exact Or.inl rfl | exact Or.inr rfl) ?_
          exact pX_no zXf.rf (by unfold cPour; rw [et, eu, if_pos (by omega), if_pos (by omega)]) (by omega)
    · have z11 := iteF c11
      refine z_al0 eX11_pour_14 ?_
      refine z_ki eX11_pour_15 ?_
      refine zc_vi1 eX11_pour_16 lX11_134 tX11_deny zs0 (by decide) (Nat.le_of_ble_eq_true rfl) (x_deny _ _) ?_
      rintro _ _ ⟨rfl, rfl⟩ -
      refine ze_z eX11_pour_19 rfl (by first | exact Or.inl rfl | exact Or.inr rfl) ?_
      exact pX_no zXf.rf (by unfold cPour; (repeat' split) <;> first | (exfalso; omega) | rfl) (by omega)
theorem r_pour_l (t i u j n : Nat) (ht : t < 4) (hu : u < 4) (hi : i + n ≤ 60) (hj : j + n ≤ 60) (rs : Int) (hrs : rs = 1 ∧ i < j ∨ rs = 0 ∧ j ≤ i) (g1 : zHp) : ∀ (r k : Nat) (g : zHp), k + r = n → zFr 120 g1 g → (∀ x : Nat, g 120 x = if 60 * u + j ≤ x ∧ x < 60 * u + j + n ∧ (rs = 1 ∧ n ≤ x - (60 * u + j) + k ∨ rs = 0 ∧ x - (60 * u + j) < k) then g1 120 (60 * t + i + (x - (60 * u + j))) else g1 120 x) → zRW mX12_pour 1 (0, 0) 158 [zA 117, zI t, zI i, zI u, zI j, zI n, zI rs, zI k, zU] [] 143 g (zqi (fun v h' => (1 : Int) = v ∧ zFr 120 g1 h' ∧ ∀ x : Nat, h' 120 x = if 60 * u + j ≤ x ∧ x < 60 * u + j + n then g1 120 (60 * t + i + (x - (60 * u + j))) else g1 120 x)) := by
  intro r
  induction r using Nat.strongRecOn with
  | ind r ih =>
    intro k g hk hfr hx
    refine z_il7 eX12_pour_158 ?_
    refine z_il5 eX12_pour_160 ?_
    refine z_cge eX12_pour_162 rfl (fun c162 => ?_) (fun c162 => ?_)
    · refine z_ki eX12_pour_219 ?_
      refine ze_z eX12_pour_220 rfl (by first | exact Or.inl rfl | exact Or.inr rfl) ?_
      refine ⟨rfl, hfr, fun x => ?_⟩
      rw [hx x]
      by_cases z : 60 * u + j ≤ x ∧ x < 60 * u + j + n
      · rw [if_pos (by omega), if_pos z]
      · rw [if_neg (by omega), if_neg z]
    · refine z_il6 eX12_pour_165 ?_
      refine z_ieq eX12_pour_167 rfl (fun c167 => ?_) (fun c167 => ?_)
      · refine z_il7 eX12_pour_180 ?_
        refine z_is8 eX12_pour_182 zn0 ?_
        refine z_al0 eX12_pour_184 ?_
        refine z_ga eX12_pour_185 fX12_20 zs117 (t := 120) rfl ?_
        refine z_ki eX12_pour_188 ?_
        refine z_il3 eX12_pour_190 ?_
        refine z_imulN eX12_pour_191 (by omega) (by omega) ?_
        refine z_il4 eX12_pour_192 ?_
        refine z_iaddN eX12_pour_194 (by omega) (by omega) ?_
        refine z_il8 eX12_pour_195 ?_
        refine z_iaddN eX12_pour_197 (by omega) (by omega) ?_
        refine z_al0 eX12_pour_198 ?_
        refine z_ga eX12_pour_199 fX12_20 zs117 (t := 120) rfl ?_
        refine z_ki eX12_pour_202 ?_
        refine z_il1 eX12_pour_204 ?_
        refine z_imulN eX12_pour_205 (by omega) (by omega) ?_
        refine z_il2 eX12_pour_206 ?_
        refine z_iaddN eX12_pour_207 (by omega) (by omega) ?_
        refine z_il8 eX12_pour_208 ?_
        refine z_iaddN eX12_pour_210 (by omega) (by omega) ?_
        refine zr_lN eX12_pour_211 zs120 (j := 60 * t + i + k) (by omega) (by omega) ?_
        refine zs_lN eX12_pour_212 zs120 (j := 60 * u + j + k) (by omega) (by omega) ?_
        refine z_incN7 eX12_pour_213 zn0 (by omega) (by omega) ?_
        refine z_goto eX12_pour_216 rfl ?_
        refine z_fg8 ?_
        refine ih (r - 1) (by omega) (k + 1) _ (by omega) (hfr.up _ _) (fun x => ?_)
        rw [zup_rd]
        by_cases e : x = 60 * u + j + k
        · rw [if_pos ⟨rfl, e⟩, if_pos (by omega), hx (60 * t + i + k), if_neg (by omega)]
          rw [show x - (60 * u + j) = k by omega]
        · rw [if_neg (fun q => e q.2), hx x]
          by_cases z : 60 * u + j ≤ x ∧ x < 60 * u + j + n ∧ (rs = 1 ∧ n ≤ x - (60 * u + j) + k ∨ rs = 0 ∧ x - (60 * u + j) < k)
          · rw [if_pos z, if_pos (by omega)]
          · rw [if_neg z, if_neg (by omega)]
      · refine z_il5 eX12_pour_170 ?_
        refine z_ki eX12_pour_172 ?_
        refine z_isubN eX12_pour_173 (by omega) (by omega) ?_
        refine z_il7 eX12_pour_174 ?_
        refine z_isubN eX12_pour_176 (by omega) (by omega) ?_
        refine z_goto eX12_pour_177 rfl ?_
        refine z_is8 eX12_pour_182 zn0 ?_
        refine z_al0 eX12_pour_184 ?_
        refine z_ga eX12_pour_185 fX12_20 zs117 (t := 120) rfl ?_
        refine z_ki eX12_pour_188 ?_
        refine z_il3 eX12_pour_190 ?_
        refine z_imulN eX12_pour_191 (by omega) (by omega) ?_
        refine z_il4 eX12_pour_192 ?_
        refine z_iaddN eX12_pour_194 (by omega) (by omega) ?_
        refine z_il8 eX12_pour_195 ?_
        refine z_iaddN eX12_pour_197 (by omega) (by omega) ?_
        refine z_al0 eX12_pour_198 ?_
        refine z_ga eX12_pour_199 fX12_20 zs117 (t := 120) rfl ?_
        refine z_ki eX12_pour_202 ?_
        refine z_il1 eX12_pour_204 ?_
        refine z_imulN eX12_pour_205 (by omega) (by omega) ?_
        refine z_il2 eX12_pour_206 ?_
        refine z_iaddN eX12_pour_207 (by omega) (by omega) ?_
        refine z_il8 eX12_pour_208 ?_
        refine z_iaddN eX12_pour_210 (by omega) (by omega) ?_
        refine zr_lN eX12_pour_211 zs120 (j := 60 * t + i + (n - 1 - k)) (by omega) (by omega) ?_
        refine zs_lN eX12_pour_212 zs120 (j := 60 * u + j + (n - 1 - k)) (by omega) (by omega) ?_
        refine z_incN7 eX12_pour_213 zn0 (by omega) (by omega) ?_
        refine z_goto eX12_pour_216 rfl ?_
        refine z_fg8 ?_
        refine ih (r - 1) (by omega) (k + 1) _ (by omega) (hfr.up _ _) (fun x => ?_)
        rw [zup_rd]
        by_cases e : x = 60 * u + j + (n - 1 - k)
        · rw [if_pos ⟨rfl, e⟩, if_pos (by omega), hx (60 * t + i + (n - 1 - k)), if_neg (by omega)]
          rw [show x - (60 * u + j) = (n - 1 - k) by omega]
        · rw [if_neg (fun q => e q.2), hx x]
          by_cases z : 60 * u + j ≤ x ∧ x < 60 * u + j + n ∧ (rs = 1 ∧ n ≤ x - (60 * u + j) + k ∨ rs = 0 ∧ x - (60 * u + j) < k)
          · rw [if_pos z, if_pos (by omega)]
          · rw [if_neg z, if_neg (by omega)]
theorem r_pour (h : zHp) (h118 : ∀ t : Nat, t < 4 → h 119 t ≤ 60) (t i u j n : Int) : zCi mX12_pour 1 [zA 117, zI t, zI i, zI u, zI j, zI n] h (fun v h' => (cPour h t i u j n = 0 → (1 : Int) = v ∧ zFr 120 (zup (zup h 117 1 0) 117 0 0) h' ∧ ∀ x : Nat, h' 120 x = if 60 * u.toNat + j.toNat ≤ x ∧ x < 60 * u.toNat + j.toNat + n.toNat then h 120 (60 * t.toNat + i.toNat + (x - (60 * u.toNat + j.toNat))) else h 120 x) ∧ (¬ cPour h t i u j n = 0 → pM0 h (0, cPour h t i u j n) v h')) := by
  refine z_enter [zA 117, zI t, zI i, zI u, zI j, zI n, zU, zU, zU] (by decide +kernel) (Nat.le_of_ble_eq_true rfl) rfl (fun hra hrg => ?_)
  refine z_al0 eX12_pour_0 ?_
  refine z_ki eX12_pour_1 ?_
  refine z_pi eX12_pour_2 pX12_98 zs117 ?_
  refine z_al0 eX12_pour_5 ?_
  refine z_ki eX12_pour_6 ?_
  refine z_pi eX12_pour_7 pX12_101 zs117 ?_
  have hi32 : z32 i := hra (zI i) (by simp)
  have hj32 : z32 j := hra (zI j) (by simp)
  have hn32 : z32 n := hra (zI n) (by simp)
  unfold z32 at hi32 hj32 hn32
  generalize hg : zup (zup h 117 1 0) 117 0 0 = g
  obtain ⟨ga, gf, g0⟩ := m_g hg
  have g119 : g 119 = h 119 := ga 119 (by decide)
  have g118 : g 118 = h 118 := ga 118 (by decide)
  refine z_il1 eX12_pour_10 ?_
  refine z_ilt eX12_pour_11 rfl (fun c11 => ?_) (fun c11 => ?_)
  · refine z_al0 eX12_pour_28 ?_
    refine z_ki eX12_pour_29 ?_
    refine zc_vi1 eX12_pour_30 lX12_113 tX12_no zs117 (by decide) (Nat.le_of_ble_eq_true rfl) (r_no _ _) ?_
    rintro _ _ ⟨rfl, rfl⟩ -
    refine ze_z eX12_pour_33 rfl (by first | exact Or.inl rfl | exact Or.inr rfl) ?_
    exact pM_no hg zMf.rf (by unfold cPour; (repeat' split) <;> first | (exfalso; omega) | rfl) (by omega)
  · refine z_il1 eX12_pour_14 ?_
    refine z_ki eX12_pour_15 ?_
    refine z_cge eX12_pour_16 rfl (fun c16 => ?_) (fun c16 => ?_)
    · refine z_al0 eX12_pour_28 ?_
      refine z_ki eX12_pour_29 ?_
      refine zc_vi1 eX12_pour_30 lX12_113 tX12_no zs117 (by decide) (Nat.le_of_ble_eq_true rfl) (r_no _ _) ?_
      rintro _ _ ⟨rfl, rfl⟩ -
      refine ze_z eX12_pour_33 rfl (by first | exact Or.inl rfl | exact Or.inr rfl) ?_
      exact pM_no hg zMf.rf (by unfold cPour; (repeat' split) <;> first | (exfalso; omega) | rfl) (by omega)
    · refine z_il3 eX12_pour_19 ?_
      refine z_ilt eX12_pour_20 rfl (fun c20 => ?_) (fun c20 => ?_)
      · refine z_al0 eX12_pour_28 ?_
        refine z_ki eX12_pour_29 ?_
        refine zc_vi1 eX12_pour_30 lX12_113 tX12_no zs117 (by decide) (Nat.le_of_ble_eq_true rfl) (r_no _ _) ?_
        rintro _ _ ⟨rfl, rfl⟩ -
        refine ze_z eX12_pour_33 rfl (by first | exact Or.inl rfl | exact Or.inr rfl) ?_
        exact pM_no hg zMf.rf (by unfold cPour; (repeat' split) <;> first | (exfalso; omega) | rfl) (by omega)
      · refine z_il3 eX12_pour_23 ?_
        refine z_ki eX12_pour_24 ?_
        refine z_clt eX12_pour_25 rfl (fun c25 => ?_) (fun c25 => ?_)
        · obtain ⟨t, rfl⟩ := Int.eq_ofNat_of_zero_le (show 0 ≤ t by omega)
          have ht : t < 4 := by omega
          obtain ⟨u, rfl⟩ := Int.eq_ofNat_of_zero_le (show 0 ≤ u by omega)
          have hu : u < 4 := by omega
          have h6t := h118 t ht
          have h6u := h118 u hu
          have et : (t : Int).toNat = t := Int.toNat_natCast t
          have eu : (u : Int).toNat = u := Int.toNat_natCast u
          refine z_al0 eX12_pour_34 ?_
          refine z_ga eX12_pour_35 fX12_17 zs117 (t := 119) rfl ?_
          refine z_il1 eX12_pour_38 ?_
          refine zr_iN eX12_pour_39 zs119 (j := t) (by omega) (by omega) ?_
          rw [g119]
          refine z_ilt eX12_pour_40 rfl (fun c40 => ?_) (fun c40 => ?_)
          · refine z_al0 eX12_pour_52 ?_
            refine z_ki eX12_pour_53 ?_
            refine zc_vi1 eX12_pour_54 lX12_113 tX12_no zs117 (by decide) (Nat.le_of_ble_eq_true rfl) (r_no _ _) ?_
            rintro _ _ ⟨rfl, rfl⟩ -
            refine ze_z eX12_pour_57 rfl (by first | exact Or.inl rfl | exact Or.inr rfl) ?_
            exact pM_no hg zMf.rf (by unfold cPour; rw [et, eu, if_pos (by omega), if_pos (by omega)]) (by omega)
          · refine z_al0 eX12_pour_43 ?_
            refine z_ga eX12_pour_44 fX12_17 zs117 (t := 119) rfl ?_
            refine z_il3 eX12_pour_47 ?_
            refine zr_iN eX12_pour_48 zs119 (j := u) (by omega) (by omega) ?_
            rw [g119]
            refine z_ige eX12_pour_49 rfl (fun c49 => ?_) (fun c49 => ?_)
            · refine z_al0 eX12_pour_58 ?_
              refine z_ga eX12_pour_59 fX12_13 zs117 (t := 118) rfl ?_
              refine z_il1 eX12_pour_62 ?_
              refine zr_iN eX12_pour_63 zs118 (j := t) (by omega) (by omega) ?_
              refine z_al0 eX12_pour_64 ?_
              refine z_ga eX12_pour_65 fX12_13 zs117 (t := 118) rfl ?_
              refine z_il3 eX12_pour_68 ?_
              refine zr_iN eX12_pour_69 zs118 (j := u) (by omega) (by omega) ?_
              rw [g118]
              refine z_ceq eX12_pour_70 rfl (fun c70 => ?_) (fun c70 => ?_)
              · refine z_il5 eX12_pour_80 ?_
                refine z_ige eX12_pour_82 rfl (fun c82 => ?_) (fun c82 => ?_)
                · refine z_il2 eX12_pour_92 ?_
                  refine z_ilt eX12_pour_93 rfl (fun c93 => ?_) (fun c93 => ?_)
                  · refine z_al0 eX12_pour_136 ?_
                    refine z_ki eX12_pour_137 ?_
                    refine zc_vi1 eX12_pour_138 lX12_113 tX12_no zs117 (by decide) (Nat.le_of_ble_eq_true rfl) (r_no _ _) ?_
                    rintro _ _ ⟨rfl, rfl⟩ -
                    refine ze_z eX12_pour_141 rfl (by first | exact Or.inl rfl | exact Or.inr rfl) ?_
                    exact pM_no hg zMf.rf (by unfold cPour; rw [et, eu, if_pos (by omega), if_neg (by omega), if_neg (by omega), if_neg (by omega), if_neg (by omega)]) (by omega)
                  · refine z_il4 eX12_pour_96 ?_
                    refine z_ilt eX12_pour_98 rfl (fun c98 => ?_) (fun c98 => ?_)
                    · refine z_al0 eX12_pour_136 ?_
                      refine z_ki eX12_pour_137 ?_
                      refine zc_vi1 eX12_pour_138 lX12_113 tX12_no zs117 (by decide) (Nat.le_of_ble_eq_true rfl) (r_no _ _) ?_
                      rintro _ _ ⟨rfl, rfl⟩ -
                      refine ze_z eX12_pour_141 rfl (by first | exact Or.inl rfl | exact Or.inr rfl) ?_
                      exact pM_no hg zMf.rf (by unfold cPour; rw [et, eu, if_pos (by omega), if_neg (by omega), if_neg (by omega), if_neg (by omega), if_neg (by omega)]) (by omega)
                    · refine z_il2 eX12_pour_101 ?_
                      refine z_i2l eX12_pour_102 ?_
                      refine z_il5 eX12_pour_103 ?_
                      refine z_i2l eX12_pour_105 ?_
                      refine z_laddN eX12_pour_106 (by omega) (by omega) ?_
                      refine z_al0 eX12_pour_107 ?_
                      refine z_ga eX12_pour_108 fX12_17 zs117 (t := 119) rfl ?_
                      refine z_il1 eX12_pour_111 ?_
                      refine zr_iN eX12_pour_112 zs119 (j := t) (by omega) (by omega) ?_
                      rw [g119]
                      refine z_i2l eX12_pour_113 ?_
                      refine z_lcmp eX12_pour_114 ?_
                      refine z_igt eX12_pour_115 rfl (fun c115 => ?_) (fun c115 => ?_)
                      · rw [zcmp_gt] at c115
                        refine z_al0 eX12_pour_136 ?_
                        refine z_ki eX12_pour_137 ?_
                        refine zc_vi1 eX12_pour_138 lX12_113 tX12_no zs117 (by decide) (Nat.le_of_ble_eq_true rfl) (r_no _ _) ?_
                        rintro _ _ ⟨rfl, rfl⟩ -
                        refine ze_z eX12_pour_141 rfl (by first | exact Or.inl rfl | exact Or.inr rfl) ?_
                        exact pM_no hg zMf.rf (by unfold cPour; rw [et, eu, if_pos (by omega), if_neg (by omega), if_neg (by omega), if_neg (by omega), if_neg (by omega)]) (by omega)
                      · rw [zcmp_gt] at c115
                        refine z_il4 eX12_pour_118 ?_
                        refine z_i2l eX12_pour_120 ?_
                        refine z_il5 eX12_pour_121 ?_
                        refine z_i2l eX12_pour_123 ?_
                        refine z_laddN eX12_pour_124 (by omega) (by omega) ?_
                        refine z_al0 eX12_pour_125 ?_
                        refine z_ga eX12_pour_126 fX12_17 zs117 (t := 119) rfl ?_
                        refine z_il3 eX12_pour_129 ?_
                        refine zr_iN eX12_pour_130 zs119 (j := u) (by omega) (by omega) ?_
                        rw [g119]
                        refine z_i2l eX12_pour_131 ?_
                        refine z_lcmp eX12_pour_132 ?_
                        refine z_ile eX12_pour_133 rfl (fun c133 => ?_) (fun c133 => ?_)
                        · rw [zcmp_le] at c133
                          obtain ⟨i, rfl⟩ := Int.eq_ofNat_of_zero_le (show 0 ≤ i by omega)
                          obtain ⟨j, rfl⟩ := Int.eq_ofNat_of_zero_le (show 0 ≤ j by omega)
                          obtain ⟨n, rfl⟩ := Int.eq_ofNat_of_zero_le (show 0 ≤ n by omega)
                          refine z_il2 eX12_pour_142 ?_
                          refine z_il4 eX12_pour_143 ?_
                          refine z_cge eX12_pour_145 rfl (fun c145 => ?_) (fun c145 => ?_)
                          · refine z_ki eX12_pour_152 ?_
                            refine z_is6 eX12_pour_153 zn0 ?_
                            refine z_ki eX12_pour_155 ?_
                            refine z_is7 eX12_pour_156 zn0 ?_
                            refine z_wk ?_ (r_pour_l t i u j n ht hu (by omega) (by omega) 0 (by omega) g n 0 g (Nat.zero_add _) zFr.rf (fun x => by rw [if_neg (by omega)]))
                            rintro _ _ h1 ⟨a, v, b, d1, d2, d3⟩
                            refine ⟨a, v, b, pc_ok (by unfold cPour; rw [et, eu, if_pos (by omega), if_neg (by omega), if_neg (by omega), if_neg (by omega), if_pos (by omega)]) ⟨d1, d2, fun x => ?_⟩⟩
                            have d4 := d3 x
                            rw [ga 120 (by decide)] at d4
                            exact d4
                          · refine z_ki eX12_pour_148 ?_
                            refine z_goto eX12_pour_149 rfl ?_
                            refine z_is6 eX12_pour_153 zn0 ?_
                            refine z_ki eX12_pour_155 ?_
                            refine z_is7 eX12_pour_156 zn0 ?_
                            refine z_wk ?_ (r_pour_l t i u j n ht hu (by omega) (by omega) 1 (by omega) g n 0 g (Nat.zero_add _) zFr.rf (fun x => by rw [if_neg (by omega)]))
                            rintro _ _ h1 ⟨a, v, b, d1, d2, d3⟩
                            refine ⟨a, v, b, pc_ok (by unfold cPour; rw [et, eu, if_pos (by omega), if_neg (by omega), if_neg (by omega), if_neg (by omega), if_pos (by omega)]) ⟨d1, d2, fun x => ?_⟩⟩
                            have d4 := d3 x
                            rw [ga 120 (by decide)] at d4
                            exact d4
                        · rw [zcmp_le] at c133
                          refine z_al0 eX12_pour_136 ?_
                          refine z_ki eX12_pour_137 ?_
                          refine zc_vi1 eX12_pour_138 lX12_113 tX12_no zs117 (by decide) (Nat.le_of_ble_eq_true rfl) (r_no _ _) ?_
                          rintro _ _ ⟨rfl, rfl⟩ -
                          refine ze_z eX12_pour_141 rfl (by first | exact Or.inl rfl | exact Or.inr rfl) ?_
                          exact pM_no hg zMf.rf (by unfold cPour; rw [et, eu, if_pos (by omega), if_neg (by omega), if_neg (by omega), if_neg (by omega), if_neg (by omega)]) (by omega)
                · refine z_al0 eX12_pour_85 ?_
                  refine z_ki eX12_pour_86 ?_
                  refine zc_vi1 eX12_pour_88 lX12_113 tX12_no zs117 (by decide) (Nat.le_of_ble_eq_true rfl) (r_no _ _) ?_
                  rintro _ _ ⟨rfl, rfl⟩ -
                  refine ze_z eX12_pour_91 rfl (by first | exact Or.inl rfl | exact Or.inr rfl) ?_
                  exact pM_no hg zMf.rf (by unfold cPour; rw [et, eu, if_pos (by omega), if_neg (by omega), if_neg (by omega), if_pos (by omega)]) (by omega)
              · refine z_al0 eX12_pour_73 ?_
                refine z_ki eX12_pour_74 ?_
                refine zc_vi1 eX12_pour_76 lX12_113 tX12_no zs117 (by decide) (Nat.le_of_ble_eq_true rfl) (r_no _ _) ?_
                rintro _ _ ⟨rfl, rfl⟩ -
                refine ze_z eX12_pour_79 rfl (by first | exact Or.inl rfl | exact Or.inr rfl) ?_
                exact pM_no hg zMf.rf (by unfold cPour; rw [et, eu, if_pos (by omega), if_neg (by omega), if_pos (by omega)]) (by omega)
            · refine z_al0 eX12_pour_52 ?_
              refine z_ki eX12_pour_53 ?_
              refine zc_vi1 eX12_pour_54 lX12_113 tX12_no zs117 (by decide) (Nat.le_of_ble_eq_true rfl) (r_no _ _) ?_
              rintro _ _ ⟨rfl, rfl⟩ -
              refine ze_z eX12_pour_57 rfl (by first | exact Or.inl rfl | exact Or.inr rfl) ?_
              exact pM_no hg zMf.rf (by unfold cPour; rw [et, eu, if_pos (by omega), if_pos (by omega)]) (by omega)
        · refine z_al0 eX12_pour_28 ?_
          refine z_ki eX12_pour_29 ?_
          refine zc_vi1 eX12_pour_30 lX12_113 tX12_no zs117 (by decide) (Nat.le_of_ble_eq_true rfl) (r_no _ _) ?_
          rintro _ _ ⟨rfl, rfl⟩ -
          refine ze_z eX12_pour_33 rfl (by first | exact Or.inl rfl | exact Or.inr rfl) ?_
          exact pM_no hg zMf.rf (by unfold cPour; (repeat' split) <;> first | (exfalso; omega) | rfl) (by omega)
def byt (x : Int) (j : Nat) : Int := zi2b (zshr x (24 - 8 * (j : Int)))
theorem zi2b_i {x : Int} (h0 : -128 ≤ x) (h1 : x ≤ 127) : zi2b x = x := by
  have h : ∀ n : Nat, n < 256 → zi2b ((n : Int) - 128) = (n : Int) - 128 := by decide +kernel
  have := h (x + 128).toNat (by omega)
  rwa [show (((x + 128).toNat : Nat) : Int) - 128 = x by omega] at this
theorem byt_i (x : Int) (j : Nat) : zi2b (byt x j) = byt x j := by
  have := zi2b_r (zshr x (24 - 8 * (j : Int)))
  exact zi2b_i this.1 this.2
/-- k bytes of x behind the n that lie in cell ca, whose number is field fi of cell ob -/
def tp (ca ob fi : Nat) (h : zHp) (n : Nat) (x : Int) (k : Nat) : zHp := fun a i => if a = ca ∧ n ≤ i ∧ i < n + k then byt x (i - n) else if a = ob ∧ i = fi then ((n + k : Nat) : Int) else h a i
theorem tp_rd (ca ob fi : Nat) (h : zHp) (n : Nat) (x : Int) (k a i : Nat) : tp ca ob fi h n x k a i = if a = ca ∧ n ≤ i ∧ i < n + k then byt x (i - n) else if a = ob ∧ i = fi then ((n + k : Nat) : Int) else h a i := rfl
theorem tp_0 {ca ob fi : Nat} {h : zHp} {n : Nat} (x : Int) (hn : h ob fi = (n : Int)) : tp ca ob fi h n x 0 = h := by
  funext a i
  rw [tp_rd, if_neg (by omega)]
  split
  · next q => rw [q.1, q.2, hn]; rfl
  · rfl
theorem tp_s {ca ob fi : Nat} {h : zHp} {n : Nat} (x : Int) (k : Nat) (hc : ¬ ca = ob) : zup (zup (tp ca ob fi h n x k) ca (n + k) (byt x k)) ob fi ((n + k : Nat) + 1 : Int) = tp ca ob fi h n x (k + 1) := by
  funext a i
  simp only [zup_rd, tp_rd]
  by_cases q : a = ob ∧ i = fi
  · rw [if_pos q, if_neg (fun z => hc (z.1.symm.trans q.1)), if_pos q]; rfl
  · rw [if_neg q, if_neg q, if_neg q]
    by_cases z : a = ca ∧ i = n + k
    · rw [if_pos z, if_pos ⟨z.1, by omega⟩, show i - n = k by omega]
    · rw [if_neg z]
      by_cases w : a = ca ∧ n ≤ i ∧ i < n + k
      · rw [if_pos w, if_pos (by omega)]
      · rw [if_neg w, if_neg (by omega)]
theorem tp_off {ca ob fi : Nat} {h : zHp} {n : Nat} {x : Int} {k a : Nat} (h1 : ¬ a = ca) (h2 : ¬ a = ob) : tp ca ob fi h n x k a = h a := by
  funext i
  rw [tp_rd, if_neg (by omega), if_neg (by omega)]
theorem tp_n {ca ob fi : Nat} {h : zHp} {n : Nat} {x : Int} {k : Nat} (hc : ¬ ca = ob) : tp ca ob fi h n x k ob fi = ((n + k : Nat) : Int) := by
  rw [tp_rd, if_neg (by omega), if_pos ⟨rfl, rfl⟩]
theorem tp_f {ca ob fi : Nat} {h : zHp} {n : Nat} {x : Int} {k i : Nat} (hc : ¬ ca = ob) (hi : ¬ i = fi) : tp ca ob fi h n x k ob i = h ob i := by
  rw [tp_rd, if_neg (by omega), if_neg (by omega)]
theorem tp_eq {ca ob fi cb ob' fi' : Nat} {f g : zHp} {n : Nat} (x : Int) (k : Nat) (h1 : ¬ ca = ob) (h2 : ¬ cb = ob') (H : ∀ i : Nat, i < n → f ca i = g cb i) : ∀ i : Nat, i < n + k → tp ca ob fi f n x k ca i = tp cb ob' fi' g n x k cb i := by
  intro i hi
  rw [tp_rd, tp_rd]
  by_cases q : n ≤ i
  · rw [if_pos ⟨rfl, q, hi⟩, if_pos ⟨rfl, q, hi⟩]
  · rw [if_neg (by omega), if_neg (by omega), if_neg (by omega), if_neg (by omega)]
    exact H i (by omega)
theorem tp_ex {ca ob fi : Nat} {h g : zHp} {n : Nat} {x : Int} {k : Nat} (h1 : ∀ i, obc ca i = 2) (h2 : obc ob fi = 2) (H : zEx [2] h g) : zEx [2] h (tp ca ob fi g n x k) := by
  intro c c1 c2 c3 a i q
  rw [tp_rd, if_neg (fun z => by rw [z.1, h1] at q; exact c3 (by rw [← q]; simp)), if_neg (fun z => by rw [z.1, z.2, h2] at q; exact c3 (by rw [← q]; simp))]
  exact H c c1 c2 c3 a i q
theorem x_add_l (h : zHp) (n : Nat) (hn : n + 4 ≤ 700) (x : Int) : ∀ (r k : Nat), k + r = 4 → zRW mX9_add 0 (0, 0) 3 [zA 2, zI x, zI (24 - 8 * (k : Int))] [] 143 (tp 3 2 1 h n x k) (zqv (fun h' => tp 3 2 1 h n x 4 = h')) := by
  intro r
  induction r using Nat.strongRecOn with
  | ind r ih =>
    intro k hk
    have hz : tp 3 2 1 h n x k 2 1 = ((n + k : Nat) : Int) := tp_n (by decide)
    refine z_il2 eX9_add_3 ?_
    refine z_ilt eX9_add_4 rfl (fun c4 => ?_) (fun c4 => ?_)
    · refine ze_v eX9_add_46 rfl ?_
      have e : k = 4 := by omega
      subst e
      exact rfl
    · refine z_al0 eX9_add_7 ?_
      refine z_gi eX9_add_8 fX9_22 zs2 ?_
      refine z_ki eX9_add_11 ?_
      rw [hz]
      refine z_cge eX9_add_14 rfl (fun c14 => ?_) (fun c14 => ?_)
      · exfalso; omega
      · refine z_al0 eX9_add_17 ?_
        refine z_ga eX9_add_18 fX9_9 zs2 (t := 3) rfl ?_
        refine z_al0 eX9_add_21 ?_
        refine z_gi eX9_add_22 fX9_22 zs2 ?_
        rw [hz]
        refine z_il1 eX9_add_25 ?_
        refine z_il2 eX9_add_26 ?_
        refine z_ishr eX9_add_27 ?_
        refine z_i2b eX9_add_28 ?_
        change zRW _ _ _ _ _ (zI (byt x k) :: _) _ _ _
        refine zs_bN eX9_add_29 zs3 (j := n + k) (by omega) (by omega) ?_
        refine z_al0 eX9_add_30 ?_
        refine z_dup eX9_add_31 zn2 ?_
        refine z_gi eX9_add_32 fX9_22 zs2 ?_
        rw [zup_off (by decide), hz]
        refine z_ki eX9_add_35 ?_
        refine z_iaddN eX9_add_36 (by omega) (by omega) ?_
        refine z_pi eX9_add_37 pX9_22 zs2 ?_
        refine z_incN2 eX9_add_40 zn0 (by omega) (by omega) ?_
        refine z_goto eX9_add_43 rfl ?_
        rw [byt_i, tp_s x k (by decide), show (24 - 8 * (k : Int) + -8) = 24 - 8 * ((k + 1 : Nat) : Int) by omega]
        exact ih (r - 1) (by omega) (k + 1) (by omega)
theorem x_add (h : zHp) (n : Nat) (hs : h 2 1 = (n : Int)) (hn : n + 4 ≤ 700) (x : Int) : zCv mX9_add 0 [zA 2, zI x] h (fun h' => tp 3 2 1 h n x 4 = h') := by
  refine z_enter [zA 2, zI x, zU] (by decide +kernel) (Nat.le_of_ble_eq_true rfl) rfl (fun hra hrg => ?_)
  refine z_ki eX9_add_0 ?_
  refine z_is2 eX9_add_2 zn0 ?_
  have q := x_add_l h n hn x 4 0 rfl
  rw [tp_0 x hs] at q
  exact q
theorem r_lay_l (h : zHp) (n : Nat) (hn : n + 4 ≤ 700) (x : Int) : ∀ (r k : Nat), k + r = 4 → zRW mX12_lay 0 (0, 0) 2 [zA 117, zI x, zI (3 - (k : Int))] [] 143 (tp 121 117 8 h n x k) (zqv (fun h' => tp 121 117 8 h n x 4 = h')) := by
  intro r
  induction r using Nat.strongRecOn with
  | ind r ih =>
    intro k hk
    have hz : tp 121 117 8 h n x k 117 8 = ((n + k : Nat) : Int) := tp_n (by decide)
    refine z_il2 eX12_lay_2 ?_
    refine z_ilt eX12_lay_3 rfl (fun c3 => ?_) (fun c3 => ?_)
    · refine ze_v eX12_lay_38 rfl ?_
      have e : k = 4 := by omega
      subst e
      exact rfl
    · refine z_al0 eX12_lay_6 ?_
      refine z_ga eX12_lay_7 fX12_24 zs117 (t := 121) rfl ?_
      refine z_al0 eX12_lay_10 ?_
      refine z_gi eX12_lay_11 fX12_217 zs117 ?_
      rw [hz]
      refine z_il1 eX12_lay_14 ?_
      refine z_ki eX12_lay_15 ?_
      refine z_il2 eX12_lay_17 ?_
      refine z_imulN eX12_lay_18 (by omega) (by omega) ?_
      rw [show 8 * (3 - (k : Int)) = 24 - 8 * (k : Int) by omega]
      refine z_ishr eX12_lay_19 ?_
      refine z_i2b eX12_lay_20 ?_
      change zRW _ _ _ _ _ (zI (byt x k) :: _) _ _ _
      refine zs_bN eX12_lay_21 zs121 (j := n + k) (by omega) (by omega) ?_
      refine z_al0 eX12_lay_22 ?_
      refine z_dup eX12_lay_23 zn2 ?_
      refine z_gi eX12_lay_24 fX12_217 zs117 ?_
      rw [zup_off (by decide), hz]
      refine z_ki eX12_lay_27 ?_
      refine z_iaddN eX12_lay_28 (by omega) (by omega) ?_
      refine z_pi eX12_lay_29 pX12_217 zs117 ?_
      refine z_incN2 eX12_lay_32 zn0 (by omega) (by omega) ?_
      refine z_goto eX12_lay_35 rfl ?_
      rw [byt_i, tp_s x k (by decide), show (3 - (k : Int) + -1) = 3 - ((k + 1 : Nat) : Int) by omega]
      exact ih (r - 1) (by omega) (k + 1) (by omega)
theorem r_lay (h : zHp) (n : Nat) (hs : h 117 8 = (n : Int)) (hn : n + 4 ≤ 700) (x : Int) : zCv mX12_lay 0 [zA 117, zI x] h (fun h' => tp 121 117 8 h n x 4 = h') := by
  refine z_enter [zA 117, zI x, zU] (by decide +kernel) (Nat.le_of_ble_eq_true rfl) rfl (fun hra hrg => ?_)
  refine z_ki eX12_lay_0 ?_
  refine z_is2 eX12_lay_1 zn0 ?_
  have q := r_lay_l h n hn x 4 0 rfl
  rw [tp_0 x hs] at q
  exact q
theorem x_hasRoom (h : zHp) : zCi mX9_hasRoom 0 [zA 2] h (fun v h' => (if h 2 1 ≤ 680 then 1 else 0) = v ∧ h = h') := by
  refine z_enter [zA 2] (by decide +kernel) (Nat.le_of_ble_eq_true rfl) rfl (fun hra hrg => ?_)
  refine z_al0 eX9_hasRoom_0 ?_
  refine z_gi eX9_hasRoom_1 fX9_22 zs2 ?_
  refine z_ki eX9_hasRoom_4 ?_
  refine z_cgt eX9_hasRoom_7 rfl (fun c7 => ?_) (fun c7 => ?_)
  · refine z_ki eX9_hasRoom_14 ?_
    refine ze_z eX9_hasRoom_15 rfl (by first | exact Or.inl rfl | exact Or.inr rfl) ?_
    refine ⟨?_, rfl⟩
    first | (rw [if_pos (by omega)]; done) | (rw [if_neg (by omega)]; done)
  · refine z_ki eX9_hasRoom_10 ?_
    refine z_goto eX9_hasRoom_11 rfl ?_
    refine ze_z eX9_hasRoom_15 rfl (by first | exact Or.inl rfl | exact Or.inr rfl) ?_
    refine ⟨?_, rfl⟩
    first | (rw [if_pos (by omega)]; done) | (rw [if_neg (by omega)]; done)
theorem x_feed (h : zHp) (n : Nat) (hs : h 2 1 = (n : Int)) (a b c d e : Int) : zCi mX11_feed 1 [zA 0, zI a, zI b, zI c, zI d, zI e] h (fun v h' => (n ≤ 680 → ((n + 20 : Nat) : Int) = v ∧ (tp 3 2 1 (tp 3 2 1 (tp 3 2 1 (tp 3 2 1 (tp 3 2 1 h (n) a 4) (n + 4) b 4) (n + 4 + 4) c 4) (n + 4 + 4 + 4) d 4) (n + 4 + 4 + 4 + 4) e 4) = h') ∧ (¬ n ≤ 680 → (-1 : Int) = v ∧ h = h')) := by
  refine z_enter [zA 0, zI a, zI b, zI c, zI d, zI e] (by decide +kernel) (Nat.le_of_ble_eq_true rfl) rfl (fun hra hrg => ?_)
  refine z_al0 eX11_feed_0 ?_
  refine z_ga eX11_feed_1 fX11_18 zs0 (t := 2) rfl ?_
  refine zc_vi0 eX11_feed_4 lX11_178 tX9_hasRoom zs2 (by decide) (Nat.le_of_ble_eq_true rfl) (x_hasRoom _) ?_
  rintro _ _ ⟨rfl, rfl⟩ -
  refine z_ine eX11_feed_7 rfl (fun c7 => ?_) (fun c7 => ?_)
  · have z7 := iteT c7
    refine z_al0 eX11_feed_12 ?_
    refine z_ga eX11_feed_13 fX11_18 zs0 (t := 2) rfl ?_
    refine z_il1 eX11_feed_16 ?_
    refine zc_vv1 eX11_feed_17 lX11_181 tX9_add zs2 (by decide) (Nat.le_of_ble_eq_true rfl) (x_add _ (n) hs (by omega) _) ?_
    rintro _ rfl
    refine z_al0 eX11_feed_20 ?_
    refine z_ga eX11_feed_21 fX11_18 zs0 (t := 2) rfl ?_
    refine z_il2 eX11_feed_24 ?_
    refine zc_vv1 eX11_feed_25 lX11_181 tX9_add zs2 (by decide) (Nat.le_of_ble_eq_true rfl) (x_add _ (n + 4) (tp_n (by decide)) (by omega) _) ?_
    rintro _ rfl
    refine z_al0 eX11_feed_28 ?_
    refine z_ga eX11_feed_29 fX11_18 zs0 (t := 2) rfl ?_
    refine z_il3 eX11_feed_32 ?_
    refine zc_vv1 eX11_feed_33 lX11_181 tX9_add zs2 (by decide) (Nat.le_of_ble_eq_true rfl) (x_add _ (n + 4 + 4) (tp_n (by decide)) (by omega) _) ?_
    rintro _ rfl
    refine z_al0 eX11_feed_36 ?_
    refine z_ga eX11_feed_37 fX11_18 zs0 (t := 2) rfl ?_
    refine z_il4 eX11_feed_40 ?_
    refine zc_vv1 eX11_feed_42 lX11_181 tX9_add zs2 (by decide) (Nat.le_of_ble_eq_true rfl) (x_add _ (n + 4 + 4 + 4) (tp_n (by decide)) (by omega) _) ?_
    rintro _ rfl
    refine z_al0 eX11_feed_45 ?_
    refine z_ga eX11_feed_46 fX11_18 zs0 (t := 2) rfl ?_
    refine z_il5 eX11_feed_49 ?_
    refine zc_vv1 eX11_feed_51 lX11_181 tX9_add zs2 (by decide) (Nat.le_of_ble_eq_true rfl) (x_add _ (n + 4 + 4 + 4 + 4) (tp_n (by decide)) (by omega) _) ?_
    rintro _ rfl
    refine z_al0 eX11_feed_54 ?_
    refine z_ga eX11_feed_55 fX11_18 zs0 (t := 2) rfl ?_
    refine z_gi eX11_feed_58 fX11_185 zs2 ?_
    refine ze_i eX11_feed_61 rfl ?_
    refine ⟨fun _ => ⟨?_, rfl⟩, fun q => by omega⟩
    rw [tp_n (by decide)] <;> omega
  · have z7 := iteF c7
    refine z_ki eX11_feed_10 ?_
    refine ze_i eX11_feed_11 rfl ?_
    exact ⟨fun q => by omega, fun _ => ⟨rfl, rfl⟩⟩
theorem r_feed (h : zHp) (n : Nat) (hs : h 117 8 = (n : Int)) (hn : n ≤ 700) (a b c d e : Int) : zCi mX12_feed 1 [zA 117, zI a, zI b, zI c, zI d, zI e] h (fun v h' => (n ≤ 680 → ((n + 20 : Nat) : Int) = v ∧ (tp 121 117 8 (tp 121 117 8 (tp 121 117 8 (tp 121 117 8 (tp 121 117 8 (zup h 117 1 0) (n) a 4) (n + 4) b 4) (n + 4 + 4) c 4) (n + 4 + 4 + 4) d 4) (n + 4 + 4 + 4 + 4) e 4) = h') ∧ (¬ n ≤ 680 → (-1 : Int) = v ∧ zup h 117 1 0 = h')) := by
  refine z_enter [zA 117, zI a, zI b, zI c, zI d, zI e] (by decide +kernel) (Nat.le_of_ble_eq_true rfl) rfl (fun hra hrg => ?_)
  refine z_al0 eX12_feed_0 ?_
  refine z_ki eX12_feed_1 ?_
  refine z_pi eX12_feed_2 pX12_98 zs117 ?_
  refine z_al0 eX12_feed_5 ?_
  refine z_gi eX12_feed_6 fX12_217 zs117 ?_
  rw [show zup h 117 1 0 117 8 = (n : Int) from (zup_ne (by decide)).trans hs]
  refine z_ki eX12_feed_9 ?_
  refine z_iaddN eX12_feed_11 (by omega) (by omega) ?_
  refine z_ki eX12_feed_12 ?_
  refine z_cle eX12_feed_15 rfl (fun c15 => ?_) (fun c15 => ?_)
  · refine z_al0 eX12_feed_20 ?_
    refine z_il1 eX12_feed_21 ?_
    refine zc_vv1 eX12_feed_22 lX12_220 tX12_lay zs117 (by decide) (Nat.le_of_ble_eq_true rfl) (r_lay _ (n) ((zup_ne (by decide)).trans hs) (by omega) _) ?_
    rintro _ rfl
    refine z_al0 eX12_feed_25 ?_
    refine z_il2 eX12_feed_26 ?_
    refine zc_vv1 eX12_feed_27 lX12_220 tX12_lay zs117 (by decide) (Nat.le_of_ble_eq_true rfl) (r_lay _ (n + 4) (tp_n (by decide)) (by omega) _) ?_
    rintro _ rfl
    refine z_al0 eX12_feed_30 ?_
    refine z_il3 eX12_feed_31 ?_
    refine zc_vv1 eX12_feed_32 lX12_220 tX12_lay zs117 (by decide) (Nat.le_of_ble_eq_true rfl) (r_lay _ (n + 4 + 4) (tp_n (by decide)) (by omega) _) ?_
    rintro _ rfl
    refine z_al0 eX12_feed_35 ?_
    refine z_il4 eX12_feed_36 ?_
    refine zc_vv1 eX12_feed_38 lX12_220 tX12_lay zs117 (by decide) (Nat.le_of_ble_eq_true rfl) (r_lay _ (n + 4 + 4 + 4) (tp_n (by decide)) (by omega) _) ?_
    rintro _ rfl
    refine z_al0 eX12_feed_41 ?_
    refine z_il5 eX12_feed_42 ?_
    refine zc_vv1 eX12_feed_44 lX12_220 tX12_lay zs117 (by decide) (Nat.le_of_ble_eq_true rfl) (r_lay _ (n + 4 + 4 + 4 + 4) (tp_n (by decide)) (by omega) _) ?_
    rintro _ rfl
    refine z_al0 eX12_feed_47 ?_
    refine z_gi eX12_feed_48 fX12_217 zs117 ?_
    refine ze_i eX12_feed_51 rfl ?_
    refine ⟨fun _ => ⟨?_, rfl⟩, fun q => by omega⟩
    rw [tp_n (by decide)] <;> omega
  · refine z_ki eX12_feed_18 ?_
    refine ze_i eX12_feed_19 rfl ?_
    exact ⟨fun q => by omega, fun _ => ⟨rfl, rfl⟩⟩
def newS (d k : Nat) (is : Int) : Nat := if is = 0 then d ^^^ (d &&& 2 ^ k) else d ||| 2 ^ k
theorem andn_or (a b : Nat) : (a ^^^ (a &&& b)) ||| b = a ||| b := by
  apply Nat.eq_of_testBit_eq
  intro i
  rw [Nat.testBit_or, Nat.testBit_or, Nat.testBit_xor, Nat.testBit_and]
  cases a.testBit i <;> cases b.testBit i <;> rfl
theorem newS_lt {d k n : Nat} (is : Int) (hd : d < 2 ^ n) (hk : k < n) : newS d k is < 2 ^ n := by
  unfold newS
  split
  · exact andn_lt hd _
  · exact or_p2_lt hd hk
def cVot (D : Nat → Int) (s i o : Int) : Int := if 0 ≤ s ∧ s < D 1 then (if (0 ≤ i ∧ i ≤ 99) ∧ (0 ≤ o ∧ o ≤ 99) then 0 else 5) else 2
def cNam (D : Nat → Int) (k : Int) : Int := if 0 ≤ k ∧ k < D 0 then 0 else 2
theorem x_stand (h : zHp) (H : rHR h) (k is : Int) : zCi mX11_stand 1 [zA 0, zI k, zI is] h (fun v h' => (cNam (h 122) k = 0 → (1 : Int) = v ∧ zup (zup h 4 1 (newS (h 122 2).toNat k.toNat is : Nat)) 0 0 0 = h') ∧ (¬ cNam (h 122) k = 0 → pX0 h (0, cNam (h 122) k) v h')) := by
  refine z_enter [zA 0, zI k, zI is, zU] (by decide +kernel) (Nat.le_of_ble_eq_true rfl) rfl (fun hra hrg => ?_)
  obtain ⟨⟨hb, hst, e0, e1, e7, ek, es, eo, hp⟩, hru⟩ := id H
  have hN := nN_eq hb
  have hS := nS_eq hb
  have hN8 := nN_le hb
  have hS20 := nS_le hb
  have hb2 := hb.2.2.1
  refine z_al0 eX11_stand_0 ?_
  refine z_il1 eX11_stand_1 ?_
  refine zc_vi1 eX11_stand_2 lX11_224 tX11_isName zs0 (by decide) (Nat.le_of_ble_eq_true rfl) (x_isName _ H _) ?_
  rintro _ _ ⟨rfl, rfl⟩ -
  refine z_ine eX11_stand_5 rfl (fun c5 => ?_) (fun c5 => ?_)
  · have z5 := iteT c5
    obtain ⟨k, rfl⟩ := Int.eq_ofNat_of_zero_le (show 0 ≤ k by omega)
    have hpk2 := Nat.pow_le_pow_right (n := 2) (by omega) (show k ≤ 7 by omega)
    refine z_ki eX11_stand_14 ?_
    refine z_il1 eX11_stand_15 ?_
    refine z_ishl eX11_stand_16 ?_
    rw [kb_shl1 (by omega)]
    refine z_is3 eX11_stand_17 zn0 ?_
    refine z_al0 eX11_stand_18 ?_
    refine z_ga eX11_stand_19 fX11_25 zs0 (t := 4) rfl ?_
    refine z_il2 eX11_stand_22 ?_
    refine z_ieq eX11_stand_23 rfl (fun c23 => ?_) (fun c23 => ?_)
    · refine z_al0 eX11_stand_38 ?_
      refine z_ga eX11_stand_39 fX11_25 zs0 (t := 4) rfl ?_
      refine z_gi eX11_stand_42 fX11_221 zs4 ?_
      refine z_il3 eX11_stand_45 ?_
      refine z_ki eX11_stand_46 ?_
      refine z_ixor eX11_stand_47 ?_
      refine z_iand eX11_stand_48 ?_
      rw [e1, stN hb, kb_andn (by omega)]
      refine z_pi eX11_stand_49 pX11_221 zs4 ?_
      refine z_al0 eX11_stand_52 ?_
      refine zc_vi0 eX11_stand_53 lX11_141 tX11_agree zs0 (by decide) (Nat.le_of_ble_eq_true rfl) (x_agree _) ?_
      rintro _ _ ⟨rfl, rfl⟩ -
      refine ze_z eX11_stand_56 rfl (by first | exact Or.inl rfl | exact Or.inr rfl) ?_
      refine pc_ok (by unfold cNam; (repeat' split) <;> first | (exfalso; omega) | rfl) ⟨rfl, ?_⟩
      rw [newS, if_pos c23]; rfl
    · refine z_al0 eX11_stand_26 ?_
      refine z_ga eX11_stand_27 fX11_25 zs0 (t := 4) rfl ?_
      refine z_gi eX11_stand_30 fX11_221 zs4 ?_
      refine z_il3 eX11_stand_33 ?_
      refine z_ior eX11_stand_34 ?_
      rw [e1, stN hb, kb_or (by omega) (by omega)]
      refine z_goto eX11_stand_35 rfl ?_
      refine z_pi eX11_stand_49 pX11_221 zs4 ?_
      refine z_al0 eX11_stand_52 ?_
      refine zc_vi0 eX11_stand_53 lX11_141 tX11_agree zs0 (by decide) (Nat.le_of_ble_eq_true rfl) (x_agree _) ?_
      rintro _ _ ⟨rfl, rfl⟩ -
      refine ze_z eX11_stand_56 rfl (by first | exact Or.inl rfl | exact Or.inr rfl) ?_
      refine pc_ok (by unfold cNam; (repeat' split) <;> first | (exfalso; omega) | rfl) ⟨rfl, ?_⟩
      rw [newS, if_neg c23]; rfl
  · have z5 := iteF c5
    refine z_al0 eX11_stand_8 ?_
    refine z_ki eX11_stand_9 ?_
    refine zc_vi1 eX11_stand_10 lX11_134 tX11_deny zs0 (by decide) (Nat.le_of_ble_eq_true rfl) (x_deny _ _) ?_
    rintro _ _ ⟨rfl, rfl⟩ -
    refine ze_z eX11_stand_13 rfl (by first | exact Or.inl rfl | exact Or.inr rfl) ?_
    exact pX_no zXf.rf (by unfold cNam; (repeat' split) <;> first | (exfalso; omega) | rfl) (by omega)
theorem r_stand (h : zHp) (D : Nat → Int) (hD : h 122 = D) (hb : dB D) (hst : D 2 < ((2 ^ nN D : Nat) : Int)) (k is : Int) : zCi mX12_stand 2 [zA 117, zI k, zI is] h (fun v h' => (cNam D k = 0 → (1 : Int) = v ∧ zup (zup (zup h 117 1 0) 117 0 0) 122 2 (newS (D 2).toNat k.toNat is : Nat) = h') ∧ (¬ cNam D k = 0 → pM0 h (0, cNam D k) v h')) := by
  refine z_enter [zA 117, zI k, zI is] (by decide +kernel) (Nat.le_of_ble_eq_true rfl) rfl (fun hra hrg => ?_)
  refine z_al0 eX12_stand_0 ?_
  refine z_ki eX12_stand_1 ?_
  refine z_pi eX12_stand_2 pX12_98 zs117 ?_
  refine z_al0 eX12_stand_5 ?_
  refine z_ki eX12_stand_6 ?_
  refine z_pi eX12_stand_7 pX12_101 zs117 ?_
  generalize hg : zup (zup h 117 1 0) 117 0 0 = g
  obtain ⟨ga, gf, g0⟩ := m_g hg
  have gD : g 122 = D := (ga 122 (by decide)).trans hD
  subst gD
  have hN := nN_eq hb
  have hS := nS_eq hb
  have hN8 := nN_le hb
  have hS20 := nS_le hb
  have hb2 := hb.2.2.1
  refine z_al0 eX12_stand_10 ?_
  refine z_il1 eX12_stand_11 ?_
  refine zc_vi1 eX12_stand_12 lX12_278 tX12_isName zs117 (by decide) (Nat.le_of_ble_eq_true rfl) (r_isName _ _ rfl hb _) ?_
  rintro _ _ ⟨rfl, rfl⟩ -
  refine z_ine eX12_stand_15 rfl (fun c15 => ?_) (fun c15 => ?_)
  · have z15 := iteT c15
    obtain ⟨k, rfl⟩ := Int.eq_ofNat_of_zero_le (show 0 ≤ k by omega)
    have hpk2 := Nat.pow_le_pow_right (n := 2) (by omega) (show k ≤ 7 by omega)
    refine z_al0 eX12_stand_24 ?_
    refine z_ga eX12_stand_25 fX12_35 zs117 (t := 122) rfl ?_
    refine z_ki eX12_stand_28 ?_
    refine z_al0 eX12_stand_29 ?_
    refine z_ga eX12_stand_30 fX12_35 zs117 (t := 122) rfl ?_
    refine z_ki eX12_stand_33 ?_
    refine zr_iN eX12_stand_34 zs122 (j := 2) (by omega) (by omega) ?_
    refine z_ki eX12_stand_35 ?_
    refine z_il1 eX12_stand_36 ?_
    refine z_ishl eX12_stand_37 ?_
    refine z_ki eX12_stand_38 ?_
    refine z_ixor eX12_stand_39 ?_
    refine z_iand eX12_stand_40 ?_
    rw [kb_shl1 (by omega), stN hb, kb_andn (by omega)]
    refine z_il2 eX12_stand_41 ?_
    refine z_ieq eX12_stand_42 rfl (fun c42 => ?_) (fun c42 => ?_)
    · refine z_ki eX12_stand_51 ?_
      refine z_ior eX12_stand_52 ?_
      have hq : (g 122 2).toNat ^^^ ((g 122 2).toNat &&& 2 ^ k) < 256 := Nat.lt_of_lt_of_le (andn_lt (stL hb hst) _) (p2le hN8)
      rw [show (0 : Int) = ((0 : Nat) : Int) from rfl, kb_or (by omega) (by omega), Nat.or_zero]
      refine zs_iN eX12_stand_53 zs122 (j := 2) (by omega) (by omega) ?_
      refine z_ki eX12_stand_54 ?_
      refine ze_z eX12_stand_55 rfl (by first | exact Or.inl rfl | exact Or.inr rfl) ?_
      refine pc_ok (by unfold cNam; (repeat' split) <;> first | (exfalso; omega) | rfl) ⟨rfl, ?_⟩
      rw [newS, if_pos c42]; rfl
    · refine z_ki eX12_stand_45 ?_
      refine z_il1 eX12_stand_46 ?_
      refine z_ishl eX12_stand_47 ?_
      rw [kb_shl1 (by omega)]
      refine z_goto eX12_stand_48 rfl ?_
      refine z_ior eX12_stand_52 ?_
      have hq : (g 122 2).toNat ^^^ ((g 122 2).toNat &&& 2 ^ k) < 256 := Nat.lt_of_lt_of_le (andn_lt (stL hb hst) _) (p2le hN8)
      rw [kb_or (by omega) (by omega), andn_or]
      refine zs_iN eX12_stand_53 zs122 (j := 2) (by omega) (by omega) ?_
      refine z_ki eX12_stand_54 ?_
      refine ze_z eX12_stand_55 rfl (by first | exact Or.inl rfl | exact Or.inr rfl) ?_
      refine pc_ok (by unfold cNam; (repeat' split) <;> first | (exfalso; omega) | rfl) ⟨rfl, ?_⟩
      rw [newS, if_neg c42]; rfl
  · have z15 := iteF c15
    refine z_al0 eX12_stand_18 ?_
    refine z_ki eX12_stand_19 ?_
    refine zc_vi1 eX12_stand_20 lX12_113 tX12_no zs117 (by decide) (Nat.le_of_ble_eq_true rfl) (r_no _ _) ?_
    rintro _ _ ⟨rfl, rfl⟩ -
    refine ze_z eX12_stand_23 rfl (by first | exact Or.inl rfl | exact Or.inr rfl) ?_
    exact pM_no hg zMf.rf (by unfold cNam; (repeat' split) <;> first | (exfalso; omega) | rfl) (by omega)
theorem x_voters (h : zHp) (H : rHR h) (s i o : Int) : zCi mX11_voters 1 [zA 0, zI s, zI i, zI o] h (fun v h' => (cVot (h 122) s i o = 0 → (1 : Int) = v ∧ zup (zup (zup h 9 s.toNat i) 10 s.toNat o) 0 0 0 = h') ∧ (¬ cVot (h 122) s i o = 0 → pX0 h (0, cVot (h 122) s i o) v h')) := by
  refine z_enter [zA 0, zI s, zI i, zI o] (by decide +kernel) (Nat.le_of_ble_eq_true rfl) rfl (fun hra hrg => ?_)
  obtain ⟨⟨hb, hst, e0, e1, e7, ek, es, eo, hp⟩, hru⟩ := id H
  have hN := nN_eq hb
  have hS := nS_eq hb
  have hN8 := nN_le hb
  have hS20 := nS_le hb
  have hb2 := hb.2.2.1
  refine z_al0 eX11_voters_0 ?_
  refine z_il1 eX11_voters_1 ?_
  refine zc_vi1 eX11_voters_2 lX11_234 tX11_isSort zs0 (by decide) (Nat.le_of_ble_eq_true rfl) (x_isSort _ H _) ?_
  rintro _ _ ⟨rfl, rfl⟩ -
  refine z_ine eX11_voters_5 rfl (fun c5 => ?_) (fun c5 => ?_)
  · have z5 := iteT c5
    refine z_il2 eX11_voters_14 ?_
    refine z_ilt eX11_voters_15 rfl (fun c15 => ?_) (fun c15 => ?_)
    · refine z_al0 eX11_voters_34 ?_
      refine z_ki eX11_voters_35 ?_
      refine zc_vi1 eX11_voters_36 lX11_134 tX11_deny zs0 (by decide) (Nat.le_of_ble_eq_true rfl) (x_deny _ _) ?_
      rintro _ _ ⟨rfl, rfl⟩ -
      refine ze_z eX11_voters_39 rfl (by first | exact Or.inl rfl | exact Or.inr rfl) ?_
      exact pX_no zXf.rf (by unfold cVot; (repeat' split) <;> first | (exfalso; omega) | rfl) (by omega)
    · refine z_il2 eX11_voters_18 ?_
      refine z_ki eX11_voters_19 ?_
      refine z_cgt eX11_voters_21 rfl (fun c21 => ?_) (fun c21 => ?_)
      · refine z_al0 eX11_voters_34 ?_
        refine z_ki eX11_voters_35 ?_
        refine zc_vi1 eX11_voters_36 lX11_134 tX11_deny zs0 (by decide) (Nat.le_of_ble_eq_true rfl) (x_deny _ _) ?_
        rintro _ _ ⟨rfl, rfl⟩ -
        refine ze_z eX11_voters_39 rfl (by first | exact Or.inl rfl | exact Or.inr rfl) ?_
        exact pX_no zXf.rf (by unfold cVot; (repeat' split) <;> first | (exfalso; omega) | rfl) (by omega)
      · refine z_il3 eX11_voters_24 ?_
        refine z_ilt eX11_voters_25 rfl (fun c25 => ?_) (fun c25 => ?_)
        · refine z_al0 eX11_voters_34 ?_
          refine z_ki eX11_voters_35 ?_
          refine zc_vi1 eX11_voters_36 lX11_134 tX11_deny zs0 (by decide) (Nat.le_of_ble_eq_true rfl) (x_deny _ _) ?_
          rintro _ _ ⟨rfl, rfl⟩ -
          refine ze_z eX11_voters_39 rfl (by first | exact Or.inl rfl | exact Or.inr rfl) ?_
          exact pX_no zXf.rf (by unfold cVot; (repeat' split) <;> first | (exfalso; omega) | rfl) (by omega)
        · refine z_il3 eX11_voters_28 ?_
          refine z_ki eX11_voters_29 ?_
          refine z_cle eX11_voters_31 rfl (fun c31 => ?_) (fun c31 => ?_)
          · refine z_al0 eX11_voters_40 ?_
            refine z_ga eX11_voters_41 fX11_25 zs0 (t := 4) rfl ?_
            refine z_ga eX11_voters_44 fX11_237 zs4 (t := 9) rfl ?_
            refine z_il1 eX11_voters_47 ?_
            refine z_il2 eX11_voters_48 ?_
            refine zs_iN eX11_voters_49 zs9 (j := s.toNat) (by omega) (by omega) ?_
            refine z_al0 eX11_voters_50 ?_
            refine z_ga eX11_voters_51 fX11_25 zs0 (t := 4) rfl ?_
            refine z_ga eX11_voters_54 fX11_240 zs4 (t := 10) rfl ?_
            refine z_il1 eX11_voters_57 ?_
            refine z_il3 eX11_voters_58 ?_
            refine zs_iN eX11_voters_59 zs10 (j := s.toNat) (by omega) (by omega) ?_
            refine z_al0 eX11_voters_60 ?_
            refine zc_vi0 eX11_voters_61 lX11_141 tX11_agree zs0 (by decide) (Nat.le_of_ble_eq_true rfl) (x_agree _) ?_
            rintro _ _ ⟨rfl, rfl⟩ -
            refine ze_z eX11_voters_64 rfl (by first | exact Or.inl rfl | exact Or.inr rfl) ?_
            exact pc_ok (by unfold cVot; (repeat' split) <;> first | (exfalso; omega) | rfl) ⟨rfl, rfl⟩
          · refine z_al0 eX11_voters_34 ?_
            refine z_ki eX11_voters_35 ?_
            refine zc_vi1 eX11_voters_36 lX11_134 tX11_deny zs0 (by decide) (Nat.le_of_ble_eq_true rfl) (x_deny _ _) ?_
            rintro _ _ ⟨rfl, rfl⟩ -
            refine ze_z eX11_voters_39 rfl (by first | exact Or.inl rfl | exact Or.inr rfl) ?_
            exact pX_no zXf.rf (by unfold cVot; (repeat' split) <;> first | (exfalso; omega) | rfl) (by omega)
  · have z5 := iteF c5
    refine z_al0 eX11_voters_8 ?_
    refine z_ki eX11_voters_9 ?_
    refine zc_vi1 eX11_voters_10 lX11_134 tX11_deny zs0 (by decide) (Nat.le_of_ble_eq_true rfl) (x_deny _ _) ?_
    rintro _ _ ⟨rfl, rfl⟩ -
    refine ze_z eX11_voters_13 rfl (by first | exact Or.inl rfl | exact Or.inr rfl) ?_
    exact pX_no zXf.rf (by unfold cVot; (repeat' split) <;> first | (exfalso; omega) | rfl) (by omega)
theorem r_voters (h : zHp) (D : Nat → Int) (hD : h 122 = D) (hb : dB D) (hst : D 2 < ((2 ^ nN D : Nat) : Int)) (s i o : Int) : zCi mX12_voters 2 [zA 117, zI s, zI i, zI o] h (fun v h' => (cVot D s i o = 0 → (1 : Int) = v ∧ zup (zup (zup (zup h 117 1 0) 117 0 0) 122 (20 + s.toNat) i) 122 (40 + s.toNat) o = h') ∧ (¬ cVot D s i o = 0 → pM0 h (0, cVot D s i o) v h')) := by
  refine z_enter [zA 117, zI s, zI i, zI o] (by decide +kernel) (Nat.le_of_ble_eq_true rfl) rfl (fun hra hrg => ?_)
  refine z_al0 eX12_voters_0 ?_
  refine z_ki eX12_voters_1 ?_
  refine z_pi eX12_voters_2 pX12_98 zs117 ?_
  refine z_al0 eX12_voters_5 ?_
  refine z_ki eX12_voters_6 ?_
  refine z_pi eX12_voters_7 pX12_101 zs117 ?_
  generalize hg : zup (zup h 117 1 0) 117 0 0 = g
  obtain ⟨ga, gf, g0⟩ := m_g hg
  have gD : g 122 = D := (ga 122 (by decide)).trans hD
  subst gD
  have hN := nN_eq hb
  have hS := nS_eq hb
  have hN8 := nN_le hb
  have hS20 := nS_le hb
  have hb2 := hb.2.2.1
  refine z_al0 eX12_voters_10 ?_
  refine z_il1 eX12_voters_11 ?_
  refine zc_vi1 eX12_voters_12 lX12_281 tX12_isSort zs117 (by decide) (Nat.le_of_ble_eq_true rfl) (r_isSort _ _ rfl hb _) ?_
  rintro _ _ ⟨rfl, rfl⟩ -
  refine z_ine eX12_voters_15 rfl (fun c15 => ?_) (fun c15 => ?_)
  · have z15 := iteT c15
    refine z_il2 eX12_voters_24 ?_
    refine z_i2l eX12_voters_25 ?_
    refine z_kj eX12_voters_26 ?_
    refine z_kj eX12_voters_27 ?_
    refine zc_si3 eX12_voters_30 lX12_133 tX12_isIn (by decide) (Nat.le_of_ble_eq_true rfl) (r_isIn _ _ _ _) ?_
    rintro _ _ ⟨rfl, rfl⟩ -
    refine z_ieq eX12_voters_33 rfl (fun c33 => ?_) (fun c33 => ?_)
    · have z33 := iteF c33
      refine z_al0 eX12_voters_48 ?_
      refine z_ki eX12_voters_49 ?_
      refine zc_vi1 eX12_voters_50 lX12_113 tX12_no zs117 (by decide) (Nat.le_of_ble_eq_true rfl) (r_no _ _) ?_
      rintro _ _ ⟨rfl, rfl⟩ -
      refine ze_z eX12_voters_53 rfl (by first | exact Or.inl rfl | exact Or.inr rfl) ?_
      exact pM_no hg zMf.rf (by unfold cVot; (repeat' split) <;> first | (exfalso; omega) | rfl) (by omega)
    · have z33 := iteT c33
      refine z_il3 eX12_voters_36 ?_
      refine z_i2l eX12_voters_37 ?_
      refine z_kj eX12_voters_38 ?_
      refine z_kj eX12_voters_39 ?_
      refine zc_si3 eX12_voters_42 lX12_133 tX12_isIn (by decide) (Nat.le_of_ble_eq_true rfl) (r_isIn _ _ _ _) ?_
      rintro _ _ ⟨rfl, rfl⟩ -
      refine z_ine eX12_voters_45 rfl (fun c45 => ?_) (fun c45 => ?_)
      · have z45 := iteT c45
        refine z_al0 eX12_voters_54 ?_
        refine z_ga eX12_voters_55 fX12_35 zs117 (t := 122) rfl ?_
        refine z_ki eX12_voters_58 ?_
        refine z_il1 eX12_voters_60 ?_
        refine z_iaddN eX12_voters_61 (by omega) (by omega) ?_
        refine z_il2 eX12_voters_62 ?_
        refine zs_iN eX12_voters_63 zs122 (j := 20 + s.toNat) (by omega) (by omega) ?_
        refine z_al0 eX12_voters_64 ?_
        refine z_ga eX12_voters_65 fX12_35 zs117 (t := 122) rfl ?_
        refine z_ki eX12_voters_68 ?_
        refine z_il1 eX12_voters_70 ?_
        refine z_iaddN eX12_voters_71 (by omega) (by omega) ?_
        refine z_il3 eX12_voters_72 ?_
        refine zs_iN eX12_voters_73 zs122 (j := 40 + s.toNat) (by omega) (by omega) ?_
        refine z_ki eX12_voters_74 ?_
        refine ze_z eX12_voters_75 rfl (by first | exact Or.inl rfl | exact Or.inr rfl) ?_
        exact pc_ok (by unfold cVot; (repeat' split) <;> first | (exfalso; omega) | rfl) ⟨rfl, rfl⟩
      · have z45 := iteF c45
        refine z_al0 eX12_voters_48 ?_
        refine z_ki eX12_voters_49 ?_
        refine zc_vi1 eX12_voters_50 lX12_113 tX12_no zs117 (by decide) (Nat.le_of_ble_eq_true rfl) (r_no _ _) ?_
        rintro _ _ ⟨rfl, rfl⟩ -
        refine ze_z eX12_voters_53 rfl (by first | exact Or.inl rfl | exact Or.inr rfl) ?_
        exact pM_no hg zMf.rf (by unfold cVot; (repeat' split) <;> first | (exfalso; omega) | rfl) (by omega)
  · have z15 := iteF c15
    refine z_al0 eX12_voters_18 ?_
    refine z_ki eX12_voters_19 ?_
    refine zc_vi1 eX12_voters_20 lX12_113 tX12_no zs117 (by decide) (Nat.le_of_ble_eq_true rfl) (r_no _ _) ?_
    rintro _ _ ⟨rfl, rfl⟩ -
    refine ze_z eX12_voters_23 rfl (by first | exact Or.inl rfl | exact Or.inr rfl) ?_
    exact pM_no hg zMf.rf (by unfold cVot; (repeat' split) <;> first | (exfalso; omega) | rfl) (by omega)
