-- trays (written by wip/tools/specT2.py)
def cTray (t s n : Int) : Int := if 0 ≤ t ∧ t < 4 ∧ 0 ≤ s ∧ s ≤ 3 then (if 60 < n then 5 else if n < 0 then 6 else 0) else 1
def cCell (h : zHp) (t k : Int) : Int := if 0 ≤ t ∧ t < 4 then (if h 119 t.toNat < 0 then 3 else if 0 ≤ k ∧ k < h 119 t.toNat then 0 else 4) else 1
def cPour (h : zHp) (t i u j n : Int) : Int := if (0 ≤ t ∧ t < 4) ∧ (0 ≤ u ∧ u < 4) then (if h 119 t.toNat < 0 ∨ h 119 u.toNat < 0 then 3 else if ¬ h 118 t.toNat = h 118 u.toNat then 11 else if n < 0 then 6 else if 0 ≤ i ∧ 0 ≤ j ∧ i + n ≤ h 119 t.toNat ∧ j + n ≤ h 119 u.toNat then 0 else 4) else 1
theorem pc_ok {c : Int} {P Q : Prop} (h : c = 0) (p : P) : (c = 0 → P) ∧ (¬ c = 0 → Q) := ⟨fun _ => p, fun q => absurd h q⟩
theorem pX_no {h g : zHp} {c y : Int} {P : Prop} (F : zXf h g) (e : c = y) (hy : ¬ y = 0) : (c = 0 → P) ∧ (¬ c = 0 → pX0 h (0, c) 0 (zup g 0 0 y)) := ⟨fun q => absurd (e.symm.trans q) hy, fun _ => pX0_f F (by rw [e])⟩
theorem pM_no {h g f : zHp} {c y : Int} {P : Prop} (hg : zup (zup h 117 1 0) 117 0 0 = g) (F : zMf g f) (e : c = y) (hy : ¬ y = 0) : (c = 0 → P) ∧ (¬ c = 0 → pM0 h (0, c) 0 (zup f 117 0 y)) := ⟨fun q => absurd (e.symm.trans q) hy, fun _ => pM0_fr hg F (by rw [e])⟩
/-- both answered alike, and what holds between them holds again -/
def rOut (h : zHp) (v v' : Int) (h2 : zHp) : Prop := v = v' ∧ Rel h2 ∧ h2 200 = h 200 ∧ h2 201 = h 201 ∧ (nB h → nB h2)
theorem Rel.tell2 {h h1 h2 : zHp} {q : Int × Int} {v v' : Int} (H : Rel h) (hx : pX0 h q v h1) (hm : pM0 h1 q v' h2) : rOut h v v' h2 := H.tell hx hm
theorem Rel.exL {L : List Nat} {h g : zHp} (e : zEx L h g) (hs : g 0 0 = g 117 0) (H : Rel h) (h1 : 1 ∈ L → rTray g) (h2 : 2 ∈ L → rTape g) (h3 : 3 ∈ L → rFound g) (h4 : 4 ∈ L → rOpen g) (h5 : 5 ∈ L → rHR g) (h6 : 6 ∈ L → rMarks g) (h7 : 7 ∈ L → rActed g) (h8 : 8 ∈ L → rActs g) (h9 : 9 ∈ L → rFrac g) : Rel g := by
  obtain ⟨-, k1, k2, k3, k4, k5, k6, k7, k8, k9⟩ := H
  refine ⟨hs, ?_, ?_, ?_, ?_, ?_, ?_, ?_, ?_, ?_⟩
  · by_cases q : 1 ∈ L
    · exact h1 q
    · exact rTray_oc (e 1 (by omega) (by omega) q) k1
  · by_cases q : 2 ∈ L
    · exact h2 q
    · exact rTape_oc (e 2 (by omega) (by omega) q) k2
  · by_cases q : 3 ∈ L
    · exact h3 q
    · exact rFound_oc (e 3 (by omega) (by omega) q) k3
  · by_cases q : 4 ∈ L
    · exact h4 q
    · exact rOpen_oc (e 4 (by omega) (by omega) q) k4
  · by_cases q : 5 ∈ L
    · exact h5 q
    · exact rHR_oc (e 5 (by omega) (by omega) q) k5
  · by_cases q : 6 ∈ L
    · exact h6 q
    · exact rMarks_oc (e 6 (by omega) (by omega) q) k6
  · by_cases q : 7 ∈ L
    · exact h7 q
    · exact rActed_oc (e 7 (by omega) (by omega) q) k7
  · by_cases q : 8 ∈ L
    · exact h8 q
    · exact rActs_oc (e 8 (by omega) (by omega) q) k8
  · by_cases q : 9 ∈ L
    · exact h9 q
    · exact rFrac_oc (e 9 (by omega) (by omega) q) k9
theorem zfill_rd (h : zHp) (a n : Nat) (x : Int) (a' i' : Nat) : zfill h a n x a' i' = if a' = a ∧ i' < n then x else h a' i' := rfl
theorem zcp_rd (h : zHp) (src sp dst dp cnt a i : Nat) : zcp h src sp dst dp cnt a i = if a = dst ∧ dp ≤ i ∧ i < dp + cnt then h src (sp + (i - dp)) else h a i := rfl
theorem obc_tr {t : Nat} (ht : t < 4) (i : Nat) : obc (67 + 2 * t) i = 1 ∧ obc (68 + 2 * t) i = 1 := by
  have : t = 0 ∨ t = 1 ∨ t = 2 ∨ t = 3 := by omega
  rcases this with rfl | rfl | rfl | rfl <;> exact ⟨rfl, rfl⟩
theorem cTray_ok {t s n : Int} (h : cTray t s n = 0) : (0 ≤ t ∧ t < 4 ∧ 0 ≤ s ∧ s ≤ 3) ∧ 0 ≤ n ∧ n ≤ 60 := by
  unfold cTray at h
  split at h
  · next q =>
    refine ⟨q, ?_⟩
    split at h
    · omega
    · split at h <;> omega
  · omega
theorem cCell_ok {h : zHp} {t k : Int} (q : cCell h t k = 0) : (0 ≤ t ∧ t < 4) ∧ 0 ≤ h 119 t.toNat ∧ 0 ≤ k ∧ k < h 119 t.toNat := by
  unfold cCell at q
  split at q
  · next z =>
    refine ⟨z, ?_⟩
    split at q
    · omega
    · split at q <;> omega
  · omega
theorem cPour_ok {h : zHp} {t i u j n : Int} (q : cPour h t i u j n = 0) : ((0 ≤ t ∧ t < 4) ∧ (0 ≤ u ∧ u < 4)) ∧ (0 ≤ h 119 t.toNat ∧ 0 ≤ h 119 u.toNat) ∧ h 118 t.toNat = h 118 u.toNat ∧ 0 ≤ n ∧ 0 ≤ i ∧ 0 ≤ j ∧ i + n ≤ h 119 t.toNat ∧ j + n ≤ h 119 u.toNat := by
  unfold cPour at q
  split at q
  · next z =>
    refine ⟨z, ?_⟩
    split at q
    · omega
    · split at q
      · omega
      · split at q
        · omega
        · split at q <;> omega
  · omega
theorem x_become (h : zHp) (t : Nat) (ht : t < 4) (s n : Int) : zCv mX10_become 1 [zA (67 + 2 * t), zI s, zI n] h (fun h' => zfill (zup (zup (zup h (67 + 2 * t) 0 1) (67 + 2 * t) 1 s) (67 + 2 * t) 2 n) (68 + 2 * t) 60 0 = h') := by
  refine z_enter [zA (67 + 2 * t), zI s, zI n] (by decide +kernel) (Nat.le_of_ble_eq_true rfl) rfl (fun hra hrg => ?_)
  refine z_al0 eX10_become_0 ?_
  refine z_ki eX10_become_1 ?_
  refine z_pz eX10_become_2 pX10_15 (zTr2 ht) (by first | exact Or.inl rfl | exact Or.inr rfl) ?_
  refine z_al0 eX10_become_5 ?_
  refine z_il1 eX10_become_6 ?_
  refine z_pi eX10_become_7 pX10_19 (zTr2 ht) ?_
  refine z_al0 eX10_become_10 ?_
  refine z_il2 eX10_become_11 ?_
  refine z_pi eX10_become_12 pX10_23 (zTr2 ht) ?_
  refine z_al0 eX10_become_15 ?_
  refine z_ga eX10_become_16 fX10_9 (zTr2 ht) (t := (68 + 2 * t)) (zTr3 ht) ?_
  refine z_kj eX10_become_19 ?_
  refine zc_sv2 eX10_become_20 lX10_26 tJ7_fill_d0a16 (by decide) (Nat.le_of_ble_eq_true rfl) (j_filll _ _ _ _ (zTr4 ht) (by decide)) ?_
  rintro _ rfl
  refine ze_v eX10_become_23 rfl ?_
  rfl
theorem x_put (h : zHp) (t : Nat) (ht : t < 4) (k : Nat) (hk : k < 60) (x : Int) : zCv mX10_put 0 [zA (67 + 2 * t), zI k, zJ x] h (fun h' => zup h (68 + 2 * t) k (zcut (h (67 + 2 * t) 1) x) = h') := by
  refine z_enter [zA (67 + 2 * t), zI k, zJ x, zU] (by decide +kernel) (Nat.le_of_ble_eq_true rfl) rfl (fun hra hrg => ?_)
  refine z_al0 eX10_put_0 ?_
  refine z_gi eX10_put_1 fX10_19 (zTr2 ht) ?_
  by_cases q4_0 : h (67 + 2 * t) 1 = 0
  · refine zt_in 0 eX10_put_4 (by omega) (by decide) rfl (na := 32) rfl ?_
    refine z_al0 eX10_put_32 ?_
    refine z_ga eX10_put_33 fX10_9 (zTr2 ht) (t := (68 + 2 * t)) (zTr3 ht) ?_
    refine z_il1 eX10_put_36 ?_
    refine z_ll2 eX10_put_37 ?_
    refine z_l2i eX10_put_38 ?_
    refine z_i2b eX10_put_39 ?_
    refine z_i2l eX10_put_40 ?_
    refine zs_lN eX10_put_41 (zTr4 ht) (j := k) (by omega) (by omega) ?_
    refine z_goto eX10_put_42 rfl ?_
    refine ze_v eX10_put_77 rfl ?_
    rw [zcut, if_pos q4_0]
  by_cases q4_1 : h (67 + 2 * t) 1 = 1
  · refine zt_in 1 eX10_put_4 (by omega) (by decide) rfl (na := 45) rfl ?_
    refine z_al0 eX10_put_45 ?_
    refine z_ga eX10_put_46 fX10_9 (zTr2 ht) (t := (68 + 2 * t)) (zTr3 ht) ?_
    refine z_il1 eX10_put_49 ?_
    refine z_ll2 eX10_put_50 ?_
    refine z_l2i eX10_put_51 ?_
    refine z_i2s eX10_put_52 ?_
    refine z_i2l eX10_put_53 ?_
    refine zs_lN eX10_put_54 (zTr4 ht) (j := k) (by omega) (by omega) ?_
    refine z_goto eX10_put_55 rfl ?_
    refine ze_v eX10_put_77 rfl ?_
    rw [zcut, if_neg q4_0, if_pos q4_1]
  by_cases q4_2 : h (67 + 2 * t) 1 = 2
  · refine zt_in 2 eX10_put_4 (by omega) (by decide) rfl (na := 58) rfl ?_
    refine z_al0 eX10_put_58 ?_
    refine z_ga eX10_put_59 fX10_9 (zTr2 ht) (t := (68 + 2 * t)) (zTr3 ht) ?_
    refine z_il1 eX10_put_62 ?_
    refine z_ll2 eX10_put_63 ?_
    refine z_l2i eX10_put_64 ?_
    refine z_i2l eX10_put_65 ?_
    refine zs_lN eX10_put_66 (zTr4 ht) (j := k) (by omega) (by omega) ?_
    refine z_goto eX10_put_67 rfl ?_
    refine ze_v eX10_put_77 rfl ?_
    rw [zcut, if_neg q4_0, if_neg q4_1, if_pos q4_2]
  refine zt_out eX10_put_4 (by omega) (na := 70) rfl ?_
  refine z_al0 eX10_put_70 ?_
  refine z_ga eX10_put_71 fX10_9 (zTr2 ht) (t := (68 + 2 * t)) (zTr3 ht) ?_
  refine z_il1 eX10_put_74 ?_
  refine z_ll2 eX10_put_75 ?_
  refine zs_lN eX10_put_76 (zTr4 ht) (j := k) (by omega) (by omega) ?_
  refine ze_v eX10_put_77 rfl ?_
  rw [zcut, if_neg q4_0, if_neg q4_1, if_neg q4_2]
theorem x_tray (h : zHp) (t s n : Int) : zCi mX11_tray 2 [zA 0, zI t, zI s, zI n] h (fun v h' => (cTray t s n = 0 → (1 : Int) = v ∧ zup (zfill (zup (zup (zup h (67 + 2 * t.toNat) 0 1) (67 + 2 * t.toNat) 1 s) (67 + 2 * t.toNat) 2 n) (68 + 2 * t.toNat) 60 0) 0 0 0 = h') ∧ (¬ cTray t s n = 0 → pX0 h (0, cTray t s n) v h')) := by
  refine z_enter [zA 0, zI t, zI s, zI n] (by decide +kernel) (Nat.le_of_ble_eq_true rfl) rfl (fun hra hrg => ?_)
  refine z_il1 eX11_tray_0 ?_
  refine zc_si1 eX11_tray_1 lX11_130 tX11_isTray (by decide) (Nat.le_of_ble_eq_true rfl) (x_isTray _ _) ?_
  rintro _ _ ⟨rfl, rfl⟩ -
  refine z_ieq eX11_tray_4 rfl (fun c4 => ?_) (fun c4 => ?_)
  · have z4 := iteF c4
    refine z_al0 eX11_tray_16 ?_
    refine z_ki eX11_tray_17 ?_
    refine zc_vi1 eX11_tray_18 lX11_134 tX11_deny zs0 (by decide) (Nat.le_of_ble_eq_true rfl) (x_deny _ _) ?_
    rintro _ _ ⟨rfl, rfl⟩ -
    refine ze_z eX11_tray_21 rfl (by first | exact Or.inl rfl | exact Or.inr rfl) ?_
    exact pX_no zXf.rf (by unfold cTray; (repeat' split) <;> first | (exfalso; omega) | rfl) (by omega)
  · have z4 := iteT c4
    refine z_il2 eX11_tray_7 ?_
    refine z_ilt eX11_tray_8 rfl (fun c8 => ?_) (fun c8 => ?_)
    · refine z_al0 eX11_tray_16 ?_
      refine z_ki eX11_tray_17 ?_
      refine zc_vi1 eX11_tray_18 lX11_134 tX11_deny zs0 (by decide) (Nat.le_of_ble_eq_true rfl) (x_deny _ _) ?_
      rintro _ _ ⟨rfl, rfl⟩ -
      refine ze_z eX11_tray_21 rfl (by first | exact Or.inl rfl | exact Or.inr rfl) ?_
      exact pX_no zXf.rf (by unfold cTray; (repeat' split) <;> first | (exfalso; omega) | rfl) (by omega)
    · refine z_il2 eX11_tray_11 ?_
      refine z_ki eX11_tray_12 ?_
      refine z_cle eX11_tray_13 rfl (fun c13 => ?_) (fun c13 => ?_)
      · refine z_il3 eX11_tray_22 ?_
        refine z_ki eX11_tray_23 ?_
        refine z_cle eX11_tray_25 rfl (fun c25 => ?_) (fun c25 => ?_)
        · refine z_il3 eX11_tray_34 ?_
          refine z_ige eX11_tray_35 rfl (fun c35 => ?_) (fun c35 => ?_)
          · obtain ⟨t, rfl⟩ := Int.eq_ofNat_of_zero_le (show 0 ≤ t by omega)
            have ht : t < 4 := by omega
            refine z_al0 eX11_tray_45 ?_
            refine z_ga eX11_tray_46 fX11_11 zs0 (t := 1) rfl ?_
            refine z_il1 eX11_tray_49 ?_
            refine zr_aN eX11_tray_50 zs1 (Or.inl rfl) (j := t) (by omega) (by omega) (t := (67 + 2 * t)) (zTr1 ht) ?_
            refine z_il2 eX11_tray_51 ?_
            refine z_il3 eX11_tray_52 ?_
            refine zc_vv2 eX11_tray_53 lX11_137 tX10_become (zTr2 ht) (by decide) (Nat.le_of_ble_eq_true rfl) (x_become _ t ht _ _) ?_
            rintro _ rfl
            refine z_al0 eX11_tray_56 ?_
            refine zc_vi0 eX11_tray_57 lX11_141 tX11_agree zs0 (by decide) (Nat.le_of_ble_eq_true rfl) (x_agree _) ?_
            rintro _ _ ⟨rfl, rfl⟩ -
            refine ze_z eX11_tray_60 rfl (by first | exact Or.inl rfl | exact Or.inr rfl) ?_
            refine pc_ok (by unfold cTray; (repeat' split) <;> first | (exfalso; omega) | rfl) ⟨rfl, by rw [Int.toNat_natCast]⟩
          · refine z_al0 eX11_tray_38 ?_
            refine z_ki eX11_tray_39 ?_
            refine zc_vi1 eX11_tray_41 lX11_134 tX11_deny zs0 (by decide) (Nat.le_of_ble_eq_true rfl) (x_deny _ _) ?_
            rintro _ _ ⟨rfl, rfl⟩ -
            refine ze_z eX11_tray_44 rfl (by first | exact Or.inl rfl | exact Or.inr rfl) ?_
            exact pX_no zXf.rf (by unfold cTray; (repeat' split) <;> first | (exfalso; omega) | rfl) (by omega)
        · refine z_al0 eX11_tray_28 ?_
          refine z_ki eX11_tray_29 ?_
          refine zc_vi1 eX11_tray_30 lX11_134 tX11_deny zs0 (by decide) (Nat.le_of_ble_eq_true rfl) (x_deny _ _) ?_
          rintro _ _ ⟨rfl, rfl⟩ -
          refine ze_z eX11_tray_33 rfl (by first | exact Or.inl rfl | exact Or.inr rfl) ?_
          exact pX_no zXf.rf (by unfold cTray; (repeat' split) <;> first | (exfalso; omega) | rfl) (by omega)
      · refine z_al0 eX11_tray_16 ?_
        refine z_ki eX11_tray_17 ?_
        refine zc_vi1 eX11_tray_18 lX11_134 tX11_deny zs0 (by decide) (Nat.le_of_ble_eq_true rfl) (x_deny _ _) ?_
        rintro _ _ ⟨rfl, rfl⟩ -
        refine ze_z eX11_tray_21 rfl (by first | exact Or.inl rfl | exact Or.inr rfl) ?_
        exact pX_no zXf.rf (by unfold cTray; (repeat' split) <;> first | (exfalso; omega) | rfl) (by omega)
theorem r_tray_l (t n : Nat) (ht : t < 4) (hn : n ≤ 60) (s : Int) (g1 : zHp) : ∀ (r k : Nat) (g : zHp), k + r = n → zFr 120 g1 g → (∀ j : Nat, g 120 j = if 60 * t ≤ j ∧ j < 60 * t + k then 0 else g1 120 j) → zRW mX12_tray 1 (0, 0) 74 [zA 117, zI t, zI s, zI n, zI k] [] 143 g (zqi (fun v h' => (1 : Int) = v ∧ zFr 120 g1 h' ∧ ∀ j : Nat, h' 120 j = if 60 * t ≤ j ∧ j < 60 * t + n then 0 else g1 120 j)) := by
  intro r
  induction r using Nat.strongRecOn with
  | ind r ih =>
    intro k g hk hfr hj
    refine z_il4 eX12_tray_74 ?_
    refine z_il3 eX12_tray_76 ?_
    refine z_cge eX12_tray_77 rfl (fun c77 => ?_) (fun c77 => ?_)
    · refine z_ki eX12_tray_99 ?_
      refine ze_z eX12_tray_100 rfl (by first | exact Or.inl rfl | exact Or.inr rfl) ?_
      have e : k = n := by omega
      subst e
      exact ⟨rfl, hfr, hj⟩
    · refine z_al0 eX12_tray_80 ?_
      refine z_ga eX12_tray_81 fX12_20 zs117 (t := 120) rfl ?_
      refine z_ki eX12_tray_84 ?_
      refine z_il1 eX12_tray_86 ?_
      refine z_imulN eX12_tray_87 (by omega) (by omega) ?_
      refine z_il4 eX12_tray_88 ?_
      refine z_iaddN eX12_tray_90 (by omega) (by omega) ?_
      refine z_kj eX12_tray_91 ?_
      refine zs_lN eX12_tray_92 zs120 (j := 60 * t + k) (by omega) (by omega) ?_
      refine z_incN4 eX12_tray_93 zn0 (by omega) (by omega) ?_
      refine z_goto eX12_tray_96 rfl ?_
      exact ih (r - 1) (by omega) (k + 1) _ (by omega) (hfr.up _ _) (fun j => by
        rw [zup_rd]
        by_cases e : j = 60 * t + k
        · rw [if_pos ⟨rfl, e⟩, if_pos (by omega)]
        · rw [if_neg (fun q => e q.2), hj j]
          by_cases z : 60 * t ≤ j ∧ j < 60 * t + k
          · rw [if_pos z, if_pos (by omega)]
          · rw [if_neg z, if_neg (by omega)])
theorem r_tray (h : zHp) (t s n : Int) : zCi mX12_tray 1 [zA 117, zI t, zI s, zI n] h (fun v h' => (cTray t s n = 0 → (1 : Int) = v ∧ zFr 120 (zup (zup (zup (zup h 117 1 0) 117 0 0) 118 t.toNat s) 119 t.toNat n) h' ∧ ∀ j : Nat, h' 120 j = if 60 * t.toNat ≤ j ∧ j < 60 * t.toNat + n.toNat then 0 else h 120 j) ∧ (¬ cTray t s n = 0 → pM0 h (0, cTray t s n) v h')) := by
  refine z_enter [zA 117, zI t, zI s, zI n, zU] (by decide +kernel) (Nat.le_of_ble_eq_true rfl) rfl (fun hra hrg => ?_)
  refine z_al0 eX12_tray_0 ?_
  refine z_ki eX12_tray_1 ?_
  refine z_pi eX12_tray_2 pX12_98 zs117 ?_
  refine z_al0 eX12_tray_5 ?_
  refine z_ki eX12_tray_6 ?_
  refine z_pi eX12_tray_7 pX12_101 zs117 ?_
  generalize hg : zup (zup h 117 1 0) 117 0 0 = g
  obtain ⟨ga, gf, g0⟩ := m_g hg
  refine z_il1 eX12_tray_10 ?_
  refine z_ilt eX12_tray_11 rfl (fun c11 => ?_) (fun c11 => ?_)
  · refine z_al0 eX12_tray_28 ?_
    refine z_ki eX12_tray_29 ?_
    refine zc_vi1 eX12_tray_30 lX12_113 tX12_no zs117 (by decide) (Nat.le_of_ble_eq_true rfl) (r_no _ _) ?_
    rintro _ _ ⟨rfl, rfl⟩ -
    refine ze_z eX12_tray_33 rfl (by first | exact Or.inl rfl | exact Or.inr rfl) ?_
    exact pM_no hg zMf.rf (by unfold cTray; (repeat' split) <;> first | (exfalso; omega) | rfl) (by omega)
  · refine z_il1 eX12_tray_14 ?_
    refine z_ki eX12_tray_15 ?_
    refine z_cge eX12_tray_16 rfl (fun c16 => ?_) (fun c16 => ?_)
    · refine z_al0 eX12_tray_28 ?_
      refine z_ki eX12_tray_29 ?_
      refine zc_vi1 eX12_tray_30 lX12_113 tX12_no zs117 (by decide) (Nat.le_of_ble_eq_true rfl) (r_no _ _) ?_
      rintro _ _ ⟨rfl, rfl⟩ -
      refine ze_z eX12_tray_33 rfl (by first | exact Or.inl rfl | exact Or.inr rfl) ?_
      exact pM_no hg zMf.rf (by unfold cTray; (repeat' split) <;> first | (exfalso; omega) | rfl) (by omega)
    · refine z_il2 eX12_tray_19 ?_
      refine z_ilt eX12_tray_20 rfl (fun c20 => ?_) (fun c20 => ?_)
      · refine z_al0 eX12_tray_28 ?_
        refine z_ki eX12_tray_29 ?_
        refine zc_vi1 eX12_tray_30 lX12_113 tX12_no zs117 (by decide) (Nat.le_of_ble_eq_true rfl) (r_no _ _) ?_
        rintro _ _ ⟨rfl, rfl⟩ -
        refine ze_z eX12_tray_33 rfl (by first | exact Or.inl rfl | exact Or.inr rfl) ?_
        exact pM_no hg zMf.rf (by unfold cTray; (repeat' split) <;> first | (exfalso; omega) | rfl) (by omega)
      · refine z_il2 eX12_tray_23 ?_
        refine z_ki eX12_tray_24 ?_
        refine z_cle eX12_tray_25 rfl (fun c25 => ?_) (fun c25 => ?_)
        · refine z_il3 eX12_tray_34 ?_
          refine z_ki eX12_tray_35 ?_
          refine z_cle eX12_tray_37 rfl (fun c37 => ?_) (fun c37 => ?_)
          · refine z_il3 eX12_tray_46 ?_
            refine z_ige eX12_tray_47 rfl (fun c47 => ?_) (fun c47 => ?_)
            · obtain ⟨t, rfl⟩ := Int.eq_ofNat_of_zero_le (show 0 ≤ t by omega)
              have ht : t < 4 := by omega
              obtain ⟨n, rfl⟩ := Int.eq_ofNat_of_zero_le (show 0 ≤ n by omega)
              refine z_al0 eX12_tray_57 ?_
              refine z_ga eX12_tray_58 fX12_13 zs117 (t := 118) rfl ?_
              refine z_il1 eX12_tray_61 ?_
              refine z_il2 eX12_tray_62 ?_
              refine zs_iN eX12_tray_63 zs118 (j := t) (by omega) (by omega) ?_
              refine z_al0 eX12_tray_64 ?_
              refine z_ga eX12_tray_65 fX12_17 zs117 (t := 119) rfl ?_
              refine z_il1 eX12_tray_68 ?_
              refine z_il3 eX12_tray_69 ?_
              refine zs_iN eX12_tray_70 zs119 (j := t) (by omega) (by omega) ?_
              refine z_ki eX12_tray_71 ?_
              refine z_is4 eX12_tray_72 zn0 ?_
              refine z_wk ?_ (r_tray_l t n ht (by omega) s (zup (zup g 118 t s) 119 t n) n 0 _ (Nat.zero_add _) zFr.rf (fun j => by rw [if_neg (by omega)]))
              rintro _ _ h1 ⟨a, v, b, c1, c2, c3⟩
              refine ⟨a, v, b, pc_ok (by unfold cTray; (repeat' split) <;> first | (exfalso; omega) | rfl) ⟨c1, ?_, fun j => ?_⟩⟩
              · exact c2
              · have c4 := c3 j
                rw [zup_off (by decide), zup_off (by decide), ga 120 (by decide)] at c4
                exact c4
            · refine z_al0 eX12_tray_50 ?_
              refine z_ki eX12_tray_51 ?_
              refine zc_vi1 eX12_tray_53 lX12_113 tX12_no zs117 (by decide) (Nat.le_of_ble_eq_true rfl) (r_no _ _) ?_
              rintro _ _ ⟨rfl, rfl⟩ -
              refine ze_z eX12_tray_56 rfl (by first | exact Or.inl rfl | exact Or.inr rfl) ?_
              exact pM_no hg zMf.rf (by unfold cTray; (repeat' split) <;> first | (exfalso; omega) | rfl) (by omega)
          · refine z_al0 eX12_tray_40 ?_
            refine z_ki eX12_tray_41 ?_
            refine zc_vi1 eX12_tray_42 lX12_113 tX12_no zs117 (by decide) (Nat.le_of_ble_eq_true rfl) (r_no _ _) ?_
            rintro _ _ ⟨rfl, rfl⟩ -
            refine ze_z eX12_tray_45 rfl (by first | exact Or.inl rfl | exact Or.inr rfl) ?_
            exact pM_no hg zMf.rf (by unfold cTray; (repeat' split) <;> first | (exfalso; omega) | rfl) (by omega)
        · refine z_al0 eX12_tray_28 ?_
          refine z_ki eX12_tray_29 ?_
          refine zc_vi1 eX12_tray_30 lX12_113 tX12_no zs117 (by decide) (Nat.le_of_ble_eq_true rfl) (r_no _ _) ?_
          rintro _ _ ⟨rfl, rfl⟩ -
          refine ze_z eX12_tray_33 rfl (by first | exact Or.inl rfl | exact Or.inr rfl) ?_
          exact pM_no hg zMf.rf (by unfold cTray; (repeat' split) <;> first | (exfalso; omega) | rfl) (by omega)
theorem x_whyNoCell (h : zHp) (H : rTray h) (t k : Int) : zCi mX11_whyNoCell 1 [zA 0, zI t, zI k] h (fun v h' => cCell h t k = v ∧ h = h') := by
  refine z_enter [zA 0, zI t, zI k] (by decide +kernel) (Nat.le_of_ble_eq_true rfl) rfl (fun hra hrg => ?_)
  refine z_il1 eX11_whyNoCell_0 ?_
  refine zc_si1 eX11_whyNoCell_1 lX11_130 tX11_isTray (by decide) (Nat.le_of_ble_eq_true rfl) (x_isTray _ _) ?_
  rintro _ _ ⟨rfl, rfl⟩ -
  refine z_ine eX11_whyNoCell_4 rfl (fun c4 => ?_) (fun c4 => ?_)
  · have z4 := iteT c4
    obtain ⟨t, rfl⟩ := Int.eq_ofNat_of_zero_le (show 0 ≤ t by omega)
    have ht : t < 4 := by omega
    have HT := H t ht
    have hn0 := HT.1
    have h1 := HT.2.2.1
    refine z_al0 eX11_whyNoCell_9 ?_
    refine z_ga eX11_whyNoCell_10 fX11_11 zs0 (t := 1) rfl ?_
    refine z_il1 eX11_whyNoCell_13 ?_
    refine zr_aN eX11_whyNoCell_14 zs1 (Or.inl rfl) (j := t) (by omega) (by omega) (t := (67 + 2 * t)) (zTr1 ht) ?_
    refine z_gi eX11_whyNoCell_15 fX11_161 (zTr2 ht) ?_
    refine z_ine eX11_whyNoCell_18 rfl (fun c18 => ?_) (fun c18 => ?_)
    · have hnn : 0 ≤ h 119 t := by
        by_cases z : 0 ≤ h 119 t
        · exact z
        · rw [if_neg z] at h1
          exact absurd h1 c18
      have h2 := (HT.2.2.2 hnn).2.1
      refine z_al0 eX11_whyNoCell_23 ?_
      refine z_ga eX11_whyNoCell_24 fX11_11 zs0 (t := 1) rfl ?_
      refine z_il1 eX11_whyNoCell_27 ?_
      refine zr_aN eX11_whyNoCell_28 zs1 (Or.inl rfl) (j := t) (by omega) (by omega) (t := (67 + 2 * t)) (zTr1 ht) ?_
      refine z_il2 eX11_whyNoCell_29 ?_
      refine z_ki eX11_whyNoCell_30 ?_
      refine zc_vi2 eX11_whyNoCell_31 lX11_168 tX10_has (zTr2 ht) (by decide) (Nat.le_of_ble_eq_true rfl) (x_has _ t ht (by omega) _ _) ?_
      rintro _ _ ⟨rfl, rfl⟩ -
      refine z_ieq eX11_whyNoCell_34 rfl (fun c34 => ?_) (fun c34 => ?_)
      · have z34 := iteF c34
        refine z_ki eX11_whyNoCell_41 ?_
        refine ze_i eX11_whyNoCell_42 rfl ?_
        exact ⟨by unfold cCell; rw [Int.toNat_natCast, if_pos (by omega), if_neg (by omega), if_neg (by omega)], rfl⟩
      · have z34 := iteT c34
        refine z_ki eX11_whyNoCell_37 ?_
        refine z_goto eX11_whyNoCell_38 rfl ?_
        refine ze_i eX11_whyNoCell_42 rfl ?_
        exact ⟨by unfold cCell; rw [Int.toNat_natCast, if_pos (by omega), if_neg (by omega), if_pos (by omega)], rfl⟩
    · refine z_ki eX11_whyNoCell_21 ?_
      refine ze_i eX11_whyNoCell_22 rfl ?_
      have hnn : h 119 t < 0 := by
        by_cases z : 0 ≤ h 119 t
        · rw [if_pos z] at h1; omega
        · omega
      exact ⟨by unfold cCell; rw [Int.toNat_natCast, if_pos (by omega), if_pos hnn], rfl⟩
  · have z4 := iteF c4
    refine z_ki eX11_whyNoCell_7 ?_
    refine ze_i eX11_whyNoCell_8 rfl ?_
    exact ⟨by unfold cCell; (repeat' split) <;> first | (exfalso; omega) | rfl, rfl⟩
theorem r_trayed (h : zHp) (t : Int) : zCi mX12_trayed 0 [zA 117, zI t] h (fun v h' => (if 0 ≤ t ∧ t < 4 then (if h 119 t.toNat < 0 then 3 else 0) else 1) = v ∧ h = h') := by
  refine z_enter [zA 117, zI t] (by decide +kernel) (Nat.le_of_ble_eq_true rfl) rfl (fun hra hrg => ?_)
  refine z_il1 eX12_trayed_0 ?_
  refine z_ilt eX12_trayed_1 rfl (fun c1 => ?_) (fun c1 => ?_)
  · refine z_ki eX12_trayed_9 ?_
    refine z_goto eX12_trayed_10 rfl ?_
    refine ze_i eX12_trayed_27 rfl ?_
    refine ⟨?_, rfl⟩
    repeat (first | rw [if_pos (by omega)] | rw [if_neg (by omega)])
  · refine z_il1 eX12_trayed_4 ?_
    refine z_ki eX12_trayed_5 ?_
    refine z_clt eX12_trayed_6 rfl (fun c6 => ?_) (fun c6 => ?_)
    · refine z_al0 eX12_trayed_13 ?_
      refine z_ga eX12_trayed_14 fX12_17 zs117 (t := 119) rfl ?_
      refine z_il1 eX12_trayed_17 ?_
      refine zr_iN eX12_trayed_18 zs119 (j := t.toNat) (by omega) (by omega) ?_
      refine z_ige eX12_trayed_19 rfl (fun c19 => ?_) (fun c19 => ?_)
      · refine z_ki eX12_trayed_26 ?_
        refine ze_i eX12_trayed_27 rfl ?_
        refine ⟨?_, rfl⟩
        repeat (first | rw [if_pos (by omega)] | rw [if_neg (by omega)])
      · refine z_ki eX12_trayed_22 ?_
        refine z_goto eX12_trayed_23 rfl ?_
        refine ze_i eX12_trayed_27 rfl ?_
        refine ⟨?_, rfl⟩
        repeat (first | rw [if_pos (by omega)] | rw [if_neg (by omega)])
    · refine z_ki eX12_trayed_9 ?_
      refine z_goto eX12_trayed_10 rfl ?_
      refine ze_i eX12_trayed_27 rfl ?_
      refine ⟨?_, rfl⟩
      repeat (first | rw [if_pos (by omega)] | rw [if_neg (by omega)])
theorem r_placed (h : zHp) (t k : Int) : zCi mX12_placed 1 [zA 117, zI t, zI k] h (fun v h' => cCell h t k = v ∧ h = h') := by
  refine z_enter [zA 117, zI t, zI k, zU] (by decide +kernel) (Nat.le_of_ble_eq_true rfl) rfl (fun hra hrg => ?_)
  refine z_al0 eX12_placed_0 ?_
  refine z_il1 eX12_placed_1 ?_
  refine zc_vi1 eX12_placed_2 lX12_117 tX12_trayed zs117 (by decide) (Nat.le_of_ble_eq_true rfl) (r_trayed _ _) ?_
  rintro _ _ ⟨rfl, rfl⟩ -
  have hc : (if 0 ≤ t ∧ t < 4 then (if h 119 t.toNat < 0 then (3 : Int) else 0) else 1) = 0 ∧ (0 ≤ t ∧ t < 4) ∧ ¬ h 119 t.toNat < 0 ∨ (if 0 ≤ t ∧ t < 4 then (if h 119 t.toNat < 0 then (3 : Int) else 0) else 1) = 3 ∧ (0 ≤ t ∧ t < 4) ∧ h 119 t.toNat < 0 ∨ (if 0 ≤ t ∧ t < 4 then (if h 119 t.toNat < 0 then (3 : Int) else 0) else 1) = 1 ∧ ¬ (0 ≤ t ∧ t < 4) := by
    by_cases z : 0 ≤ t ∧ t < 4
    · by_cases z2 : h 119 t.toNat < 0
      · rw [if_pos z, if_pos z2]; exact Or.inr (Or.inl ⟨rfl, z, z2⟩)
      · rw [if_pos z, if_neg z2]; exact Or.inl ⟨rfl, z, z2⟩
    · rw [if_neg z]; exact Or.inr (Or.inr ⟨rfl, z⟩)
  generalize (if 0 ≤ t ∧ t < 4 then (if h 119 t.toNat < 0 then (3 : Int) else 0) else 1) = y at hc ⊢
  refine z_is3 eX12_placed_5 zn0 ?_
  refine z_il3 eX12_placed_6 ?_
  refine z_ile eX12_placed_7 rfl (fun c7 => ?_) (fun c7 => ?_)
  · refine z_il2 eX12_placed_14 ?_
    refine z_ilt eX12_placed_15 rfl (fun c15 => ?_) (fun c15 => ?_)
    · refine z_ki eX12_placed_28 ?_
      refine z_goto eX12_placed_29 rfl ?_
      refine ze_i eX12_placed_33 rfl ?_
      refine ⟨?_, rfl⟩
      unfold cCell
      rw [if_pos (by omega), if_neg (by omega), if_neg (by omega)]
    · refine z_il2 eX12_placed_18 ?_
      refine z_al0 eX12_placed_19 ?_
      refine z_ga eX12_placed_20 fX12_17 zs117 (t := 119) rfl ?_
      refine z_il1 eX12_placed_23 ?_
      refine zr_iN eX12_placed_24 zs119 (j := t.toNat) (by omega) (by omega) ?_
      refine z_clt eX12_placed_25 rfl (fun c25 => ?_) (fun c25 => ?_)
      · refine z_ki eX12_placed_32 ?_
        refine ze_i eX12_placed_33 rfl ?_
        refine ⟨?_, rfl⟩
        unfold cCell
        rw [if_pos (by omega), if_neg (by omega), if_pos (by omega)]
      · refine z_ki eX12_placed_28 ?_
        refine z_goto eX12_placed_29 rfl ?_
        refine ze_i eX12_placed_33 rfl ?_
        refine ⟨?_, rfl⟩
        unfold cCell
        rw [if_pos (by omega), if_neg (by omega), if_neg (by omega)]
  · refine z_il3 eX12_placed_10 ?_
    refine z_goto eX12_placed_11 rfl ?_
    refine ze_i eX12_placed_33 rfl ?_
    refine ⟨?_, rfl⟩
    unfold cCell
    rcases hc with hc | hc | hc
    · omega
    · rw [if_pos hc.2.1, if_pos hc.2.2, hc.1]
    · rw [if_neg hc.2, hc.1]
theorem x_write (h : zHp) (H : rTray h) (t k x : Int) : zCi mX11_write 2 [zA 0, zI t, zI k, zJ x] h (fun v h' => (cCell h t k = 0 → (1 : Int) = v ∧ zup (zup h (68 + 2 * t.toNat) k.toNat (zcut (h 118 t.toNat) x)) 0 0 0 = h') ∧ (¬ cCell h t k = 0 → pX0 h (0, cCell h t k) v h')) := by
  refine z_enter [zA 0, zI t, zI k, zJ x, zU, zU] (by decide +kernel) (Nat.le_of_ble_eq_true rfl) rfl (fun hra hrg => ?_)
  refine z_al0 eX11_write_0 ?_
  refine z_il1 eX11_write_1 ?_
  refine z_il2 eX11_write_2 ?_
  refine zc_vi2 eX11_write_3 lX11_145 tX11_whyNoCell zs0 (by decide) (Nat.le_of_ble_eq_true rfl) (x_whyNoCell _ H _ _) ?_
  rintro _ _ ⟨rfl, rfl⟩ -
  refine z_is5 eX11_write_6 zn9 ?_
  refine z_il5 eX11_write_8 ?_
  refine z_ieq eX11_write_10 rfl (fun c10 => ?_) (fun c10 => ?_)
  · have hk := cCell_ok c10
    have ht : t.toNat < 4 := by omega
    obtain ⟨t, rfl⟩ := Int.eq_ofNat_of_zero_le (show 0 ≤ t by omega)
    obtain ⟨k, rfl⟩ := Int.eq_ofNat_of_zero_le (show 0 ≤ k by omega)
    rw [Int.toNat_natCast] at ht hk
    have HT := H t ht
    have hn0 := HT.1
    refine z_al0 eX11_write_20 ?_
    refine z_ga eX11_write_21 fX11_11 zs0 (t := 1) rfl ?_
    refine z_il1 eX11_write_24 ?_
    refine zr_aN eX11_write_25 zs1 (Or.inl rfl) (j := t) (by omega) (by omega) (t := (67 + 2 * t)) (zTr1 ht) ?_
    refine z_il2 eX11_write_26 ?_
    refine z_ll3 eX11_write_27 ?_
    refine zc_vv2 eX11_write_28 lX11_149 tX10_put (zTr2 ht) (by decide) (Nat.le_of_ble_eq_true rfl) (x_put _ t ht k (by omega) _) ?_
    rintro _ rfl
    refine z_al0 eX11_write_31 ?_
    refine zc_vi0 eX11_write_32 lX11_141 tX11_agree zs0 (by decide) (Nat.le_of_ble_eq_true rfl) (x_agree _) ?_
    rintro _ _ ⟨rfl, rfl⟩ -
    refine ze_z eX11_write_35 rfl (by first | exact Or.inl rfl | exact Or.inr rfl) ?_
    refine pc_ok c10 ⟨rfl, ?_⟩
    rw [Int.toNat_natCast, Int.toNat_natCast, (HT.2.2.2 hk.2.1).1]
  · refine z_al0 eX11_write_13 ?_
    refine z_il5 eX11_write_14 ?_
    refine zc_vi1 eX11_write_16 lX11_134 tX11_deny zs0 (by decide) (Nat.le_of_ble_eq_true rfl) (x_deny _ _) ?_
    rintro _ _ ⟨rfl, rfl⟩ -
    refine ze_z eX11_write_19 rfl (by first | exact Or.inl rfl | exact Or.inr rfl) ?_
    exact pX_no zXf.rf rfl c10
theorem cCell_st {h : zHp} {y : Int} (t k : Int) : cCell (zup h 117 1 y) t k = cCell h t k := by
  unfold cCell
  rw [zup_off (by decide)]
theorem r_write (h : zHp) (h118 : ∀ t : Nat, t < 4 → h 119 t ≤ 60) (t k x : Int) : zCi mX12_write 2 [zA 117, zI t, zI k, zJ x] h (fun v h' => (cCell h t k = 0 → (1 : Int) = v ∧ zup (zup (zup h 117 1 0) 117 0 0) 120 (60 * t.toNat + k.toNat) (zcut (h 118 t.toNat) x) = h') ∧ (¬ cCell h t k = 0 → pM0 h (0, cCell h t k) v h')) := by
  refine z_enter [zA 117, zI t, zI k, zJ x, zU] (by decide +kernel) (Nat.le_of_ble_eq_true rfl) rfl (fun hra hrg => ?_)
  refine z_al0 eX12_write_0 ?_
  refine z_ki eX12_write_1 ?_
  refine z_pi eX12_write_2 pX12_98 zs117 ?_
  refine z_al0 eX12_write_5 ?_
  refine z_al0 eX12_write_6 ?_
  refine z_il1 eX12_write_7 ?_
  refine z_il2 eX12_write_8 ?_
  refine zc_vi2 eX12_write_9 lX12_121 tX12_placed zs117 (by decide) (Nat.le_of_ble_eq_true rfl) (r_placed _ _ _) ?_
  rintro _ _ ⟨rfl, rfl⟩ -
  rw [cCell_st]
  refine z_pi eX12_write_12 pX12_101 zs117 ?_
  refine z_al0 eX12_write_15 ?_
  refine z_gi eX12_write_16 fX12_101 zs117 ?_
  rw [zup_at]
  have hc0 : 0 ≤ cCell h t k := by
    unfold cCell
    repeat (first | omega | split)
  refine z_ile eX12_write_19 rfl (fun c19 => ?_) (fun c19 => ?_)
  · have hc1 : cCell h t k = 0 := by omega
    have hk := cCell_ok hc1
    have h60 := h118 t.toNat (by omega)
    rw [hc1]
    refine z_al0 eX12_write_24 ?_
    refine z_ga eX12_write_25 fX12_20 zs117 (t := 120) rfl ?_
    refine z_ki eX12_write_28 ?_
    refine z_il1 eX12_write_30 ?_
    refine z_imulN eX12_write_31 (by omega) (by omega) ?_
    refine z_il2 eX12_write_32 ?_
    refine z_iaddN eX12_write_33 (by omega) (by omega) ?_
    refine z_al0 eX12_write_34 ?_
    refine z_ga eX12_write_35 fX12_13 zs117 (t := 118) rfl ?_
    refine z_il1 eX12_write_38 ?_
    refine zr_iN eX12_write_39 zs118 (j := t.toNat) (by omega) (by omega) ?_
    refine z_ll3 eX12_write_40 ?_
    refine zc_sj2 eX12_write_41 lX12_125 tX12_cut (by decide) (Nat.le_of_ble_eq_true rfl) (r_cut _ _ _) ?_
    rintro _ _ ⟨rfl, rfl⟩ -
    refine zs_lN eX12_write_44 zs120 (j := 60 * t.toNat + k.toNat) (by omega) (by omega) ?_
    refine z_ki eX12_write_45 ?_
    refine ze_z eX12_write_46 rfl (by first | exact Or.inl rfl | exact Or.inr rfl) ?_
    refine pc_ok rfl ⟨rfl, ?_⟩
    rw [show zup (zup h 117 1 0) 117 0 0 118 t.toNat = h 118 t.toNat by rw [h00_off (by decide)]]
  · refine z_ki eX12_write_22 ?_
    refine ze_z eX12_write_23 rfl (by first | exact Or.inl rfl | exact Or.inr rfl) ?_
    exact ⟨fun q => by omega, fun _ => ⟨rfl, zup_at _ _ _ _, fun a ha => by rw [zup_off (by omega), zup_off (by omega)], (zEx.rf.up (Or.inl rfl)).up (Or.inl rfl)⟩⟩
def qRead (h : zHp) (t k : Int) : Int × Int := if cCell h t k = 0 then (h 120 (60 * t.toNat + k.toNat), 0) else (-1, cCell h t k)
theorem x_read (h : zHp) (H : rTray h) (t k : Int) : zCj mX11_read 2 [zA 0, zI t, zI k] h (fun v h' => pX0 h (qRead h t k) v h') := by
  refine z_enter [zA 0, zI t, zI k, zU] (by decide +kernel) (Nat.le_of_ble_eq_true rfl) rfl (fun hra hrg => ?_)
  refine z_al0 eX11_read_0 ?_
  refine z_il1 eX11_read_1 ?_
  refine z_il2 eX11_read_2 ?_
  refine zc_vi2 eX11_read_3 lX11_145 tX11_whyNoCell zs0 (by decide) (Nat.le_of_ble_eq_true rfl) (x_whyNoCell _ H _ _) ?_
  rintro _ _ ⟨rfl, rfl⟩ -
  refine z_is3 eX11_read_6 zn0 ?_
  refine z_il3 eX11_read_7 ?_
  refine z_ieq eX11_read_8 rfl (fun c8 => ?_) (fun c8 => ?_)
  · have hk := cCell_ok c8
    have ht : t.toNat < 4 := by omega
    have HT := H t.toNat ht
    have hn0 := HT.1
    refine z_al0 eX11_read_18 ?_
    refine z_ki eX11_read_19 ?_
    refine z_pi eX11_read_20 pX11_109 zs0 ?_
    refine z_al0 eX11_read_23 ?_
    refine z_ga eX11_read_24 fX11_11 zs0 (t := 1) rfl ?_
    refine z_il1 eX11_read_27 ?_
    refine zr_aN eX11_read_28 zs1 (Or.inl rfl) (j := t.toNat) (by omega) (by omega) (t := (67 + 2 * t.toNat)) (zTr1 ht) ?_
    refine z_ga eX11_read_29 fX11_157 (zTr2 ht) (t := (68 + 2 * t.toNat)) (zTr3 ht) ?_
    refine z_il2 eX11_read_32 ?_
    refine zr_lN eX11_read_33 (zTr4 ht) (j := k.toNat) (by omega) (by omega) ?_
    skip
    refine ze_j eX11_read_34 rfl ?_
    refine pX0_f zXf.rf ?_
    unfold qRead
    rw [if_pos c8, zup_off (by omega), (HT.2.2.2 hk.2.1).2.2 k.toNat (by omega)]
  · refine z_al0 eX11_read_11 ?_
    refine z_il3 eX11_read_12 ?_
    refine zc_vi1 eX11_read_13 lX11_153 tX11_fail zs0 (by decide) (Nat.le_of_ble_eq_true rfl) (x_fail _ _) ?_
    rintro _ _ ⟨rfl, rfl⟩ -
    refine z_i2l eX11_read_16 ?_
    refine ze_j eX11_read_17 rfl ?_
    exact pX0_f zXf.rf (if_neg c8)
theorem r_read (h : zHp) (h118 : ∀ t : Nat, t < 4 → h 119 t ≤ 60) (t k : Int) : zCj mX12_read 2 [zA 117, zI t, zI k] h (fun v h' => pM0 h (qRead h t k) v h') := by
  refine z_enter [zA 117, zI t, zI k] (by decide +kernel) (Nat.le_of_ble_eq_true rfl) rfl (fun hra hrg => ?_)
  refine z_al0 eX12_read_0 ?_
  refine z_ki eX12_read_1 ?_
  refine z_pi eX12_read_2 pX12_98 zs117 ?_
  refine z_al0 eX12_read_5 ?_
  refine z_al0 eX12_read_6 ?_
  refine z_il1 eX12_read_7 ?_
  refine z_il2 eX12_read_8 ?_
  refine zc_vi2 eX12_read_9 lX12_121 tX12_placed zs117 (by decide) (Nat.le_of_ble_eq_true rfl) (r_placed _ _ _) ?_
  rintro _ _ ⟨rfl, rfl⟩ -
  rw [cCell_st]
  refine z_pi eX12_read_12 pX12_101 zs117 ?_
  refine z_al0 eX12_read_15 ?_
  refine z_gi eX12_read_16 fX12_101 zs117 ?_
  rw [zup_at]
  have hc0 : 0 ≤ cCell h t k := by
    unfold cCell
    repeat (first | omega | split)
  refine z_ile eX12_read_19 rfl (fun c19 => ?_) (fun c19 => ?_)
  · have hc1 : cCell h t k = 0 := by omega
    have hk := cCell_ok hc1
    have h60 := h118 t.toNat (by omega)
    rw [hc1]
    refine z_al0 eX12_read_28 ?_
    refine z_ga eX12_read_29 fX12_20 zs117 (t := 120) rfl ?_
    refine z_ki eX12_read_32 ?_
    refine z_il1 eX12_read_34 ?_
    refine z_imulN eX12_read_35 (by omega) (by omega) ?_
    refine z_il2 eX12_read_36 ?_
    refine z_iaddN eX12_read_37 (by omega) (by omega) ?_
    refine zr_lN eX12_read_38 zs120 (j := 60 * t.toNat + k.toNat) (by omega) (by omega) ?_
    refine ze_j eX12_read_39 rfl ?_
    unfold qRead
    rw [if_pos hc1]
    exact ⟨by rw [h00_off (by decide)], zup_at _ _ _ _, fun a ha => by rw [zup_off (by omega), zup_off (by omega)], (zEx.rf.up (Or.inl rfl)).up (Or.inl rfl)⟩
  · refine z_kj eX12_read_22 ?_
    refine z_goto eX12_read_25 rfl ?_
    refine ze_j eX12_read_39 rfl ?_
    unfold qRead
    rw [if_neg (by omega)]
    exact ⟨rfl, zup_at _ _ _ _, fun a ha => by rw [zup_off (by omega), zup_off (by omega)], (zEx.rf.up (Or.inl rfl)).up (Or.inl rfl)⟩
