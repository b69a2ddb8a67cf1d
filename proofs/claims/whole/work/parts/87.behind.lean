-- act: the class's steps (written by wip/tools/specE8.py)
noncomputable def bsS (h : zHp) (sp : Int) (s : Nat) (S : aSt) : aSt :=
  if h 126 s < 2 then cN sp (h 126 s) (fdN S.D (h 123) (h 134 s)) 1 S else if h 126 s < 4 then cN sp (h 126 s) (h 127 s) (h 128 s).toNat S else if h 126 s = 4 then pur1 (h 127 s) S else S
/-- the place behind step s that stands as node n, its end as node e -/
def bsN (h : zHp) (s n e : Nat) (S : aSt) : Int := if h 126 s = 6 then (if soS h s S = 1 then (n : Int) + 1 else (e : Int) + 1) else if h 126 s = 7 then (if soS h s S = 1 then (e : Int) + 1 else (n : Int) + 1) else (n : Int) + 1
def bsR (h : zHp) (s n : Nat) (R : Nat → Int) : Nat → Int := if h 126 s = 5 ∨ h 126 s = 7 then upD R n 1 else R
/-- step s of the reference stands as node n, its block's end as e -/
def stN2 (h : zHp) (s n e : Nat) : Prop := n < 80 ∧ e < 80 ∧ h 33 n = h 126 s ∧ (h 126 s < 2 → h 36 n = h 134 s) ∧ (2 ≤ h 126 s → h 126 s ≤ 5 → h 34 n = h 127 s) ∧ (2 ≤ h 126 s → h 126 s ≤ 3 → h 35 n = h 128 s) ∧ (6 ≤ h 126 s → h 36 n = h 134 s ∧ h 37 n = h 127 s) ∧ (5 ≤ h 126 s → h 38 n = (e : Int))
theorem xS_o {h g : zHp} {W : Nat → Int} {S : aSt} (H : xS h W S g) {a : Nat} (ha : 14 ≤ a ∧ a < 50 ∨ 5 ≤ a ∧ a ≤ 8) : g a = h a := H.2.2.2.2.2.2 a (by omega) (by omega) (by omega) (by omega) (by omega) (by omega)
theorem xS_f {h g f : zHp} {W : Nat → Int} {S : aSt} (H : xS h W S g) (F : zFr 51 g f) : xS h W S f := by
  obtain ⟨H1, x4, x5, x6, x7, x8, xo⟩ := H
  refine ⟨HR_fr H1 (fun b hb => F b (by omega)), by rw [F 65 (by decide)]; exact x4, by rw [F 65 (by decide)]; exact x5, by rw [F 65 (by decide)]; exact x6, by rw [F 65 (by decide)]; exact x7, by rw [F 65 (by decide)]; exact x8, fun a a1 a2 a3 a4 a5 a6 => (F a a4).trans (xo a a1 a2 a3 a4 a5 a6)⟩
theorem xS_66 {h g : zHp} {W : Nat → Int} {S : aSt} (H : xS h W S g) (i : Nat) (v : Int) : xS h W S (zup g 66 i v) := by
  obtain ⟨H1, x4, x5, x6, x7, x8, xo⟩ := H
  exact ⟨HR_fr H1 (fun b hb => zup_off (by omega)), by rw [zup_off (by decide)]; exact x4, by rw [zup_off (by decide)]; exact x5, by rw [zup_off (by decide)]; exact x6, by rw [zup_off (by decide)]; exact x7, by rw [zup_off (by decide)]; exact x8, fun a a1 a2 a3 a4 a5 a6 => (zup_off a6).trans (xo a a1 a2 a3 a4 a5 a6)⟩
theorem xS_pu {h g : zHp} {W : Nat → Int} {S : aSt} (H : xS h W S g) (x : Int) : xS h W (pur1 x S) (zup g 65 7 (S.pu + x)) := by
  obtain ⟨H1, x4, x5, x6, x7, x8, xo⟩ := H
  exact ⟨HR_fr H1 (fun b hb => zup_off (by omega)), by rw [zup_ne (by decide)]; exact x4, by rw [zup_ne (by decide)]; exact x5, by rw [zup_ne (by decide)]; exact x6, by rw [zup_at]; rfl, by rw [zup_ne (by decide)]; exact x8, fun a a1 a2 a3 a4 a5 a6 => (zup_off a5).trans (xo a a1 a2 a3 a4 a5 a6)⟩
theorem x_isSoS {h g : zHp} {S : aSt} (Hx : xS h (h 123) S g) {s n e : Nat} (hn : stN2 h s n e) (hng : h 127 s = 0 ∨ h 127 s = 1) (h6 : 6 ≤ h 126 s) : zCi mX3_isSo 4 [zA 65, zI n] g (fun v h' => soS h s S = v ∧ xS h (h 123) S h' ∧ zFr 51 g h') := by
  obtain ⟨n1, -, -, -, -, -, n7, -⟩ := hn
  have g36 : g 36 = h 36 := xS_o Hx (by omega)
  have g37 : g 37 = h 37 := xS_o Hx (by omega)
  have q := x_isSo g S.D (h 123) Hx.1 n n1 (by rw [g37, (n7 h6).2]; exact hng)
  rw [g36, g37, (n7 h6).1, (n7 h6).2] at q
  exact zCi_wk q (fun v h' z => ⟨z.1, xS_f Hx z.2, z.2⟩)
theorem x_bs (sp : Int) (h : zHp) (s n e : Nat) (hst : stO h s) (hn : stN2 h s n e) (hsp : h 32 2 = sp) (hs01 : sp = 0 ∨ sp = 1) (g : zHp) (S0 : aSt) (Hx : xS h (h 123) (inc1 S0) g) (G : aG S0) (hdn : ¬ S0.dn = 200) : zCi mX3_behindStep 6 [zA 65, zI n] g (fun v h' => bsN h s n e (inc1 S0) = v ∧ xS h (h 123) (bsS h sp s (inc1 S0)) h' ∧ h' 66 = bsR h s n (g 66)) := by
  refine z_enter [zA 65, zI n] (by decide +kernel) (Nat.le_of_ble_eq_true rfl) rfl (fun hra hrg => ?_)
  obtain ⟨n1, n2, n3, n4, n5, n6, n7, n8⟩ := id hn
  have g33 : g 33 = h 33 := xS_o Hx (by omega)
  have g34 : g 34 = h 34 := xS_o Hx (by omega)
  have g35 : g 35 = h 35 := xS_o Hx (by omega)
  have g36 : g 36 = h 36 := xS_o Hx (by omega)
  have g38 : g 38 = h 38 := xS_o Hx (by omega)
  unfold stO at hst
  obtain ⟨H1, x4, x5, x6, x7, x8, xo⟩ := id Hx
  have hb := H1.1.1
  have e0 := H1.1.2.2.1
  have Gp := G.2.2.2.2.2
  have Gd := G.2.1
  have epu : (inc1 S0).pu = S0.pu := rfl
  have hR : ¬ (h 126 s = 5 ∨ h 126 s = 7) → g 66 = bsR h s n (g 66) := fun z => (if_neg z).symm
  refine z_al0 eX3_behindStep_0 ?_
  refine z_ga eX3_behindStep_1 fX3_17 zs65 (t := 32) rfl ?_
  refine z_ga eX3_behindStep_4 fX3_50 zs32 (t := 33) rfl ?_
  refine z_il1 eX3_behindStep_7 ?_
  refine zr_iN eX3_behindStep_8 zs33 (j := n) (by omega) (by omega) ?_
  rw [g33, n3]
  by_cases q9_0 : h 126 s = 0
  · refine zt_in 0 eX3_behindStep_9 (by omega) (by decide) rfl (na := 52) rfl ?_
    refine z_al0 eX3_behindStep_52 ?_
    refine z_al0 eX3_behindStep_53 ?_
    refine z_ga eX3_behindStep_54 fX3_17 zs65 (t := 32) rfl ?_
    refine z_ga eX3_behindStep_57 fX3_50 zs32 (t := 33) rfl ?_
    refine z_il1 eX3_behindStep_60 ?_
    refine zr_iN eX3_behindStep_61 zs33 (j := n) (by omega) (by omega) ?_
    rw [g33, n3]
    refine z_al0 eX3_behindStep_62 ?_
    refine z_ga eX3_behindStep_63 fX3_21 zs65 (t := 4) rfl ?_
    refine z_al0 eX3_behindStep_66 ?_
    refine z_ga eX3_behindStep_67 fX3_17 zs65 (t := 32) rfl ?_
    refine z_ga eX3_behindStep_70 fX3_64 zs32 (t := 36) rfl ?_
    refine z_il1 eX3_behindStep_73 ?_
    refine zr_lN eX3_behindStep_74 zs36 (j := n) (by omega) (by omega) ?_
    rw [g36, n4 (by omega)]
    refine zc_vi1 eX3_behindStep_75 lX3_68 tX5_find zs4 (by decide) (Nat.le_of_ble_eq_true rfl) (x_find _ _ hb e0 _) ?_
    rw [show fdN (inc1 S0).D (g 5) (h 134 s) = fdN (inc1 S0).D (h 123) (h 134 s) from fdN_H (a := 4) H1.1 _]
    rintro _ _ ⟨rfl, rfl⟩ -
    refine z_ki eX3_behindStep_78 ?_
    refine zc_vv3 eX3_behindStep_79 lX3_74 tX3_change zs65 (by decide) (Nat.le_of_ble_eq_true rfl) (show zCv mX3_change _ [zA 65, zI (h 126 s), zI (fdN (inc1 S0).D (h 123) (h 134 s)), zI 1] g _ from x_chg h (h 123) sp (h 126 s) (fdN (inc1 S0).D (h 123) (h 134 s)) 1 (by omega) hsp hs01 (by omega) g (inc1 S0) Hx (aG_cG G hdn (by omega))) ?_
    rintro g2 ⟨Hx2, h66⟩
    refine z_il1 eX3_behindStep_82 ?_
    refine z_ki eX3_behindStep_83 ?_
    refine z_iaddN eX3_behindStep_84 (by omega) (by omega) ?_
    refine ze_i eX3_behindStep_85 rfl ?_
    refine ⟨by unfold bsN; rw [if_neg (by omega), if_neg (by omega)], ?_, h66.trans (hR (by omega))⟩
    unfold bsS
    rw [if_pos (by omega)]
    exact Hx2
  by_cases q9_1 : h 126 s = 1
  · refine zt_in 1 eX3_behindStep_9 (by omega) (by decide) rfl (na := 52) rfl ?_
    refine z_al0 eX3_behindStep_52 ?_
    refine z_al0 eX3_behindStep_53 ?_
    refine z_ga eX3_behindStep_54 fX3_17 zs65 (t := 32) rfl ?_
    refine z_ga eX3_behindStep_57 fX3_50 zs32 (t := 33) rfl ?_
    refine z_il1 eX3_behindStep_60 ?_
    refine zr_iN eX3_behindStep_61 zs33 (j := n) (by omega) (by omega) ?_
    rw [g33, n3]
    refine z_al0 eX3_behindStep_62 ?_
    refine z_ga eX3_behindStep_63 fX3_21 zs65 (t := 4) rfl ?_
    refine z_al0 eX3_behindStep_66 ?_
    refine z_ga eX3_behindStep_67 fX3_17 zs65 (t := 32) rfl ?_
    refine z_ga eX3_behindStep_70 fX3_64 zs32 (t := 36) rfl ?_
    refine z_il1 eX3_behindStep_73 ?_
    refine zr_lN eX3_behindStep_74 zs36 (j := n) (by omega) (by omega) ?_
    rw [g36, n4 (by omega)]
    refine zc_vi1 eX3_behindStep_75 lX3_68 tX5_find zs4 (by decide) (Nat.le_of_ble_eq_true rfl) (x_find _ _ hb e0 _) ?_
    rw [show fdN (inc1 S0).D (g 5) (h 134 s) = fdN (inc1 S0).D (h 123) (h 134 s) from fdN_H (a := 4) H1.1 _]
    rintro _ _ ⟨rfl, rfl⟩ -
    refine z_ki eX3_behindStep_78 ?_
    refine zc_vv3 eX3_behindStep_79 lX3_74 tX3_change zs65 (by decide) (Nat.le_of_ble_eq_true rfl) (show zCv mX3_change _ [zA 65, zI (h 126 s), zI (fdN (inc1 S0).D (h 123) (h 134 s)), zI 1] g _ from x_chg h (h 123) sp (h 126 s) (fdN (inc1 S0).D (h 123) (h 134 s)) 1 (by omega) hsp hs01 (by omega) g (inc1 S0) Hx (aG_cG G hdn (by omega))) ?_
    rintro g2 ⟨Hx2, h66⟩
    refine z_il1 eX3_behindStep_82 ?_
    refine z_ki eX3_behindStep_83 ?_
    refine z_iaddN eX3_behindStep_84 (by omega) (by omega) ?_
    refine ze_i eX3_behindStep_85 rfl ?_
    refine ⟨by unfold bsN; rw [if_neg (by omega), if_neg (by omega)], ?_, h66.trans (hR (by omega))⟩
    unfold bsS
    rw [if_pos (by omega)]
    exact Hx2
  by_cases q9_2 : h 126 s = 2
  · refine zt_in 2 eX3_behindStep_9 (by omega) (by decide) rfl (na := 86) rfl ?_
    refine z_al0 eX3_behindStep_86 ?_
    refine z_al0 eX3_behindStep_87 ?_
    refine z_ga eX3_behindStep_88 fX3_17 zs65 (t := 32) rfl ?_
    refine z_ga eX3_behindStep_91 fX3_50 zs32 (t := 33) rfl ?_
    refine z_il1 eX3_behindStep_94 ?_
    refine zr_iN eX3_behindStep_95 zs33 (j := n) (by omega) (by omega) ?_
    rw [g33, n3]
    refine z_al0 eX3_behindStep_96 ?_
    refine z_ga eX3_behindStep_97 fX3_17 zs65 (t := 32) rfl ?_
    refine z_ga eX3_behindStep_100 fX3_78 zs32 (t := 34) rfl ?_
    refine z_il1 eX3_behindStep_103 ?_
    refine zr_iN eX3_behindStep_104 zs34 (j := n) (by omega) (by omega) ?_
    rw [g34, n5 (by omega) (by omega)]
    refine z_al0 eX3_behindStep_105 ?_
    refine z_ga eX3_behindStep_106 fX3_17 zs65 (t := 32) rfl ?_
    refine z_ga eX3_behindStep_109 fX3_81 zs32 (t := 35) rfl ?_
    refine z_il1 eX3_behindStep_112 ?_
    refine zr_iN eX3_behindStep_113 zs35 (j := n) (by omega) (by omega) ?_
    rw [g35, n6 (by omega) (by omega)]
    obtain ⟨c, hc⟩ := Int.eq_ofNat_of_zero_le (show 0 ≤ h 128 s by omega)
    rw [hc]
    refine zc_vv3 eX3_behindStep_114 lX3_74 tX3_change zs65 (by decide) (Nat.le_of_ble_eq_true rfl) (x_chg h (h 123) sp (h 126 s) (h 127 s) c (by omega) hsp hs01 (by omega) g (inc1 S0) Hx (aG_cG G hdn (by omega))) ?_
    rintro g2 ⟨Hx2, h66⟩
    refine z_il1 eX3_behindStep_117 ?_
    refine z_ki eX3_behindStep_118 ?_
    refine z_iaddN eX3_behindStep_119 (by omega) (by omega) ?_
    refine ze_i eX3_behindStep_120 rfl ?_
    refine ⟨by unfold bsN; rw [if_neg (by omega), if_neg (by omega)], ?_, h66.trans (hR (by omega))⟩
    unfold bsS
    rw [if_neg (by omega), if_pos (by omega), hc]
    exact Hx2
  by_cases q9_3 : h 126 s = 3
  · refine zt_in 3 eX3_behindStep_9 (by omega) (by decide) rfl (na := 86) rfl ?_
    refine z_al0 eX3_behindStep_86 ?_
    refine z_al0 eX3_behindStep_87 ?_
    refine z_ga eX3_behindStep_88 fX3_17 zs65 (t := 32) rfl ?_
    refine z_ga eX3_behindStep_91 fX3_50 zs32 (t := 33) rfl ?_
    refine z_il1 eX3_behindStep_94 ?_
    refine zr_iN eX3_behindStep_95 zs33 (j := n) (by omega) (by omega) ?_
    rw [g33, n3]
    refine z_al0 eX3_behindStep_96 ?_
    refine z_ga eX3_behindStep_97 fX3_17 zs65 (t := 32) rfl ?_
    refine z_ga eX3_behindStep_100 fX3_78 zs32 (t := 34) rfl ?_
    refine z_il1 eX3_behindStep_103 ?_
    refine zr_iN eX3_behindStep_104 zs34 (j := n) (by omega) (by omega) ?_
    rw [g34, n5 (by omega) (by omega)]
    refine z_al0 eX3_behindStep_105 ?_
    refine z_ga eX3_behindStep_106 fX3_17 zs65 (t := 32) rfl ?_
    refine z_ga eX3_behindStep_109 fX3_81 zs32 (t := 35) rfl ?_
    refine z_il1 eX3_behindStep_112 ?_
    refine zr_iN eX3_behindStep_113 zs35 (j := n) (by omega) (by omega) ?_
    rw [g35, n6 (by omega) (by omega)]
    obtain ⟨c, hc⟩ := Int.eq_ofNat_of_zero_le (show 0 ≤ h 128 s by omega)
    rw [hc]
    refine zc_vv3 eX3_behindStep_114 lX3_74 tX3_change zs65 (by decide) (Nat.le_of_ble_eq_true rfl) (x_chg h (h 123) sp (h 126 s) (h 127 s) c (by omega) hsp hs01 (by omega) g (inc1 S0) Hx (aG_cG G hdn (by omega))) ?_
    rintro g2 ⟨Hx2, h66⟩
    refine z_il1 eX3_behindStep_117 ?_
    refine z_ki eX3_behindStep_118 ?_
    refine z_iaddN eX3_behindStep_119 (by omega) (by omega) ?_
    refine ze_i eX3_behindStep_120 rfl ?_
    refine ⟨by unfold bsN; rw [if_neg (by omega), if_neg (by omega)], ?_, h66.trans (hR (by omega))⟩
    unfold bsS
    rw [if_neg (by omega), if_pos (by omega), hc]
    exact Hx2
  by_cases q9_4 : h 126 s = 4
  · refine zt_in 4 eX3_behindStep_9 (by omega) (by decide) rfl (na := 121) rfl ?_
    refine z_al0 eX3_behindStep_121 ?_
    refine z_dup eX3_behindStep_122 zn2 ?_
    refine z_gi eX3_behindStep_123 fX3_40 zs65 ?_
    rw [x7]
    refine z_al0 eX3_behindStep_126 ?_
    refine z_ga eX3_behindStep_127 fX3_17 zs65 (t := 32) rfl ?_
    refine z_ga eX3_behindStep_130 fX3_78 zs32 (t := 34) rfl ?_
    refine z_il1 eX3_behindStep_133 ?_
    refine zr_iN eX3_behindStep_134 zs34 (j := n) (by omega) (by omega) ?_
    rw [g34, n5 (by omega) (by omega)]
    refine z_iaddN eX3_behindStep_135 (by omega) (by omega) ?_
    refine z_pi eX3_behindStep_136 pX3_40 zs65 ?_
    refine z_il1 eX3_behindStep_139 ?_
    refine z_ki eX3_behindStep_140 ?_
    refine z_iaddN eX3_behindStep_141 (by omega) (by omega) ?_
    refine ze_i eX3_behindStep_142 rfl ?_
    refine ⟨by unfold bsN; rw [if_neg (by omega), if_neg (by omega)], ?_, (zup_off (by decide)).trans (hR (by omega))⟩
    unfold bsS
    rw [if_neg (by omega), if_neg (by omega), if_pos (by omega)]
    exact xS_pu Hx _
  by_cases q9_5 : h 126 s = 5
  · refine zt_in 5 eX3_behindStep_9 (by omega) (by decide) rfl (na := 143) rfl ?_
    refine z_al0 eX3_behindStep_143 ?_
    refine z_ga eX3_behindStep_144 fX3_11 zs65 (t := 66) rfl ?_
    refine z_il1 eX3_behindStep_147 ?_
    refine z_ki eX3_behindStep_148 ?_
    refine zs_iN eX3_behindStep_149 zs66 (j := n) (by omega) (by omega) ?_
    refine z_il1 eX3_behindStep_150 ?_
    refine z_ki eX3_behindStep_151 ?_
    refine z_iaddN eX3_behindStep_152 (by omega) (by omega) ?_
    refine ze_i eX3_behindStep_153 rfl ?_
    refine ⟨by unfold bsN; rw [if_neg (by omega), if_neg (by omega)], ?_, ?_⟩
    · unfold bsS
      rw [if_neg (by omega), if_neg (by omega), if_neg (by omega)]
      exact xS_66 Hx _ _
    · unfold bsR
      rw [if_pos (by omega)]
      exact zup_upD _ _ _ _
  by_cases q9_6 : h 126 s = 6
  · refine zt_in 6 eX3_behindStep_9 (by omega) (by decide) rfl (na := 154) rfl ?_
    refine z_al0 eX3_behindStep_154 ?_
    refine z_il1 eX3_behindStep_155 ?_
    refine zc_vi1 eX3_behindStep_156 lX3_84 tX3_isSo zs65 (by decide) (Nat.le_of_ble_eq_true rfl) (x_isSoS Hx hn (by omega) (by omega)) ?_
    rintro _ g2 ⟨rfl, Hx2, F⟩ -
    have so1 : soS h s (inc1 S0) = 0 ∨ soS h s (inc1 S0) = 1 := soV_01 _ _ _ _
    refine z_ieq eX3_behindStep_159 rfl (fun c159 => ?_) (fun c159 => ?_)
    · refine z_al0 eX3_behindStep_168 ?_
      refine z_ga eX3_behindStep_169 fX3_17 zs65 (t := 32) rfl ?_
      refine z_ga eX3_behindStep_172 fX3_53 zs32 (t := 38) rfl ?_
      refine z_il1 eX3_behindStep_175 ?_
      refine zr_iN eX3_behindStep_176 zs38 (j := n) (by omega) (by omega) ?_
      rw [F 38 (by decide), g38, n8 (by omega)]
      refine z_ki eX3_behindStep_177 ?_
      refine z_iaddN eX3_behindStep_178 (by omega) (by omega) ?_
      refine ze_i eX3_behindStep_179 rfl ?_
      refine ⟨by unfold bsN; rw [if_pos (by omega), if_neg (by omega)], ?_, (F 66 (by decide)).trans (hR (by omega))⟩
      unfold bsS
      rw [if_neg (by omega), if_neg (by omega), if_neg (by omega)]
      exact Hx2
    · refine z_il1 eX3_behindStep_162 ?_
      refine z_ki eX3_behindStep_163 ?_
      refine z_iaddN eX3_behindStep_164 (by omega) (by omega) ?_
      refine z_goto eX3_behindStep_165 rfl ?_
      refine ze_i eX3_behindStep_179 rfl ?_
      refine ⟨by unfold bsN; rw [if_pos (by omega), if_pos (by omega)], ?_, (F 66 (by decide)).trans (hR (by omega))⟩
      unfold bsS
      rw [if_neg (by omega), if_neg (by omega), if_neg (by omega)]
      exact Hx2
  refine zt_out eX3_behindStep_9 (by omega) (na := 180) rfl ?_
  refine z_al0 eX3_behindStep_180 ?_
  refine z_ga eX3_behindStep_181 fX3_11 zs65 (t := 66) rfl ?_
  refine z_il1 eX3_behindStep_184 ?_
  refine z_ki eX3_behindStep_185 ?_
  refine zs_iN eX3_behindStep_186 zs66 (j := n) (by omega) (by omega) ?_
  refine z_al0 eX3_behindStep_187 ?_
  refine z_il1 eX3_behindStep_188 ?_
  refine zc_vi1 eX3_behindStep_189 lX3_84 tX3_isSo zs65 (by decide) (Nat.le_of_ble_eq_true rfl) (x_isSoS (xS_66 Hx n 1) hn (by omega) (by omega)) ?_
  rintro _ g2 ⟨rfl, Hx2, F⟩ -
  have so1 : soS h s (inc1 S0) = 0 ∨ soS h s (inc1 S0) = 1 := soV_01 _ _ _ _
  refine z_ieq eX3_behindStep_192 rfl (fun c192 => ?_) (fun c192 => ?_)
  · refine z_il1 eX3_behindStep_209 ?_
    refine z_ki eX3_behindStep_210 ?_
    refine z_iaddN eX3_behindStep_211 (by omega) (by omega) ?_
    refine ze_i eX3_behindStep_212 rfl ?_
    refine ⟨by unfold bsN; rw [if_neg (by omega), if_pos (by omega), if_neg (by omega)], ?_, ?_⟩
    · unfold bsS
      rw [if_neg (by omega), if_neg (by omega), if_neg (by omega)]
      exact Hx2
    · unfold bsR
      rw [if_pos (by omega), F 66 (by decide)]
      exact zup_upD _ _ _ _
  · refine z_al0 eX3_behindStep_195 ?_
    refine z_ga eX3_behindStep_196 fX3_17 zs65 (t := 32) rfl ?_
    refine z_ga eX3_behindStep_199 fX3_53 zs32 (t := 38) rfl ?_
    refine z_il1 eX3_behindStep_202 ?_
    refine zr_iN eX3_behindStep_203 zs38 (j := n) (by omega) (by omega) ?_
    rw [F 38 (by decide), zup_off (by decide), g38, n8 (by omega)]
    refine z_ki eX3_behindStep_204 ?_
    refine z_iaddN eX3_behindStep_205 (by omega) (by omega) ?_
    refine z_goto eX3_behindStep_206 rfl ?_
    refine ze_i eX3_behindStep_212 rfl ?_
    refine ⟨by unfold bsN; rw [if_neg (by omega), if_pos (by omega), if_pos (by omega)], ?_, ?_⟩
    · unfold bsS
      rw [if_neg (by omega), if_neg (by omega), if_neg (by omega)]
      exact Hx2
    · unfold bsR
      rw [if_pos (by omega), F 66 (by decide)]
      exact zup_upD _ _ _ _
/-- whether a block is gone through again behind its end, r times gone through -/
def agP (h : zHp) (s : Nat) (r : Int) (S : aSt) : Prop := (h 126 s = 5 ∧ r < h 127 s) ∨ (h 126 s = 7 ∧ r < 20 ∧ soS h s S = 0)
theorem x_be (h : zHp) (s n e : Nat) (hst : stO h s) (hn : stN2 h s n e) (h5 : 5 ≤ h 126 s) (g : zHp) (S : aSt) (Hx : xS h (h 123) S g) : zCi mX3_behindEnd 6 [zA 65, zI e, zI n] g (fun v h' => ((agP h s (g 66 n) S → (n : Int) + 1 = v) ∧ (¬ agP h s (g 66 n) S → (e : Int) + 1 = v)) ∧ xS h (h 123) S h' ∧ h' 66 = upD (g 66) n (zw (g 66 n + 1))) := by
  refine z_enter [zA 65, zI e, zI n, zU] (by decide +kernel) (Nat.le_of_ble_eq_true rfl) rfl (fun hra hrg => ?_)
  obtain ⟨n1, n2, n3, n4, n5, n6, n7, n8⟩ := id hn
  have g33 : g 33 = h 33 := xS_o Hx (by omega)
  have g34 : g 34 = h 34 := xS_o Hx (by omega)
  have g35 : g 35 = h 35 := xS_o Hx (by omega)
  have g36 : g 36 = h 36 := xS_o Hx (by omega)
  have g38 : g 38 = h 38 := xS_o Hx (by omega)
  unfold stO at hst
  refine z_al0 eX3_behindEnd_0 ?_
  refine z_ga eX3_behindEnd_1 fX3_17 zs65 (t := 32) rfl ?_
  refine z_ga eX3_behindEnd_4 fX3_50 zs32 (t := 33) rfl ?_
  refine z_il2 eX3_behindEnd_7 ?_
  refine zr_iN eX3_behindEnd_8 zs33 (j := n) (by omega) (by omega) ?_
  rw [g33, n3]
  by_cases q9_5 : h 126 s = 5
  · rw [q9_5]
    refine zt_lk eX3_behindEnd_9 (by decide) (off := 27) rfl (na := 36) rfl ?_
    refine z_al0 eX3_behindEnd_36 ?_
    refine z_ga eX3_behindEnd_37 fX3_11 zs65 (t := 66) rfl ?_
    refine z_il2 eX3_behindEnd_40 ?_
    refine zr_iN eX3_behindEnd_41 zs66 (j := n) (by omega) (by omega) ?_
    refine z_al0 eX3_behindEnd_42 ?_
    refine z_ga eX3_behindEnd_43 fX3_17 zs65 (t := 32) rfl ?_
    refine z_ga eX3_behindEnd_46 fX3_78 zs32 (t := 34) rfl ?_
    refine z_il2 eX3_behindEnd_49 ?_
    refine zr_iN eX3_behindEnd_50 zs34 (j := n) (by omega) (by omega) ?_
    rw [g34, n5 (by omega) (by omega)]
    refine z_cge eX3_behindEnd_51 rfl (fun c51 => ?_) (fun c51 => ?_)
    · refine z_ki eX3_behindEnd_58 ?_
      refine z_is3 eX3_behindEnd_59 zn0 ?_
      refine z_goto eX3_behindEnd_60 rfl ?_
      refine z_al0 eX3_behindEnd_93 ?_
      refine z_ga eX3_behindEnd_94 fX3_11 zs65 (t := 66) rfl ?_
      refine z_il2 eX3_behindEnd_97 ?_
      refine z_dup2 eX3_behindEnd_98 zn0 zn2 ?_
      refine zr_iN eX3_behindEnd_99 zs66 (j := n) (by omega) (by omega) ?_
      refine z_ki eX3_behindEnd_100 ?_
      refine z_iadd eX3_behindEnd_101 ?_
      refine zs_iN eX3_behindEnd_102 zs66 (j := n) (by omega) (by omega) ?_
      refine z_il3 eX3_behindEnd_103 ?_
      refine z_ieq eX3_behindEnd_104 rfl (fun c104 => ?_) (fun c104 => ?_)
      · refine z_il1 eX3_behindEnd_113 ?_
        refine z_ki eX3_behindEnd_114 ?_
        refine z_iaddN eX3_behindEnd_115 (by omega) (by omega) ?_
        refine ze_i eX3_behindEnd_116 rfl ?_
        refine ⟨⟨fun z => ?_, fun z => ?_⟩, ?_, ?_⟩
        · unfold agP at z
          omega
        · unfold agP at z
          omega
        · exact xS_66 Hx _ _
        · exact zup_upD _ _ _ _
      · refine z_il2 eX3_behindEnd_107 ?_
        refine z_ki eX3_behindEnd_108 ?_
        refine z_iaddN eX3_behindEnd_109 (by omega) (by omega) ?_
        refine z_goto eX3_behindEnd_110 rfl ?_
        refine ze_i eX3_behindEnd_116 rfl ?_
        refine ⟨⟨fun z => ?_, fun z => ?_⟩, ?_, ?_⟩
        · unfold agP at z
          omega
        · unfold agP at z
          omega
        · exact xS_66 Hx _ _
        · exact zup_upD _ _ _ _
    · refine z_ki eX3_behindEnd_54 ?_
      refine z_goto eX3_behindEnd_55 rfl ?_
      refine z_is3 eX3_behindEnd_59 zn0 ?_
      refine z_goto eX3_behindEnd_60 rfl ?_
      refine z_al0 eX3_behindEnd_93 ?_
      refine z_ga eX3_behindEnd_94 fX3_11 zs65 (t := 66) rfl ?_
      refine z_il2 eX3_behindEnd_97 ?_
      refine z_dup2 eX3_behindEnd_98 zn0 zn2 ?_
      refine zr_iN eX3_behindEnd_99 zs66 (j := n) (by omega) (by omega) ?_
      refine z_ki eX3_behindEnd_100 ?_
      refine z_iadd eX3_behindEnd_101 ?_
      refine zs_iN eX3_behindEnd_102 zs66 (j := n) (by omega) (by omega) ?_
      refine z_il3 eX3_behindEnd_103 ?_
      refine z_ieq eX3_behindEnd_104 rfl (fun c104 => ?_) (fun c104 => ?_)
      · refine z_il1 eX3_behindEnd_113 ?_
        refine z_ki eX3_behindEnd_114 ?_
        refine z_iaddN eX3_behindEnd_115 (by omega) (by omega) ?_
        refine ze_i eX3_behindEnd_116 rfl ?_
        refine ⟨⟨fun z => ?_, fun z => ?_⟩, ?_, ?_⟩
        · unfold agP at z
          omega
        · unfold agP at z
          omega
        · exact xS_66 Hx _ _
        · exact zup_upD _ _ _ _
      · refine z_il2 eX3_behindEnd_107 ?_
        refine z_ki eX3_behindEnd_108 ?_
        refine z_iaddN eX3_behindEnd_109 (by omega) (by omega) ?_
        refine z_goto eX3_behindEnd_110 rfl ?_
        refine ze_i eX3_behindEnd_116 rfl ?_
        refine ⟨⟨fun z => ?_, fun z => ?_⟩, ?_, ?_⟩
        · unfold agP at z
          omega
        · unfold agP at z
          omega
        · exact xS_66 Hx _ _
        · exact zup_upD _ _ _ _
  by_cases q9_7 : h 126 s = 7
  · rw [q9_7]
    refine zt_lk eX3_behindEnd_9 (by decide) (off := 54) rfl (na := 63) rfl ?_
    refine z_al0 eX3_behindEnd_63 ?_
    refine z_ga eX3_behindEnd_64 fX3_11 zs65 (t := 66) rfl ?_
    refine z_il2 eX3_behindEnd_67 ?_
    refine zr_iN eX3_behindEnd_68 zs66 (j := n) (by omega) (by omega) ?_
    refine z_ki eX3_behindEnd_69 ?_
    refine z_cge eX3_behindEnd_71 rfl (fun c71 => ?_) (fun c71 => ?_)
    · refine z_ki eX3_behindEnd_86 ?_
      refine z_is3 eX3_behindEnd_87 zn0 ?_
      refine z_goto eX3_behindEnd_88 rfl ?_
      refine z_al0 eX3_behindEnd_93 ?_
      refine z_ga eX3_behindEnd_94 fX3_11 zs65 (t := 66) rfl ?_
      refine z_il2 eX3_behindEnd_97 ?_
      refine z_dup2 eX3_behindEnd_98 zn0 zn2 ?_
      refine zr_iN eX3_behindEnd_99 zs66 (j := n) (by omega) (by omega) ?_
      refine z_ki eX3_behindEnd_100 ?_
      refine z_iadd eX3_behindEnd_101 ?_
      refine zs_iN eX3_behindEnd_102 zs66 (j := n) (by omega) (by omega) ?_
      refine z_il3 eX3_behindEnd_103 ?_
      refine z_ieq eX3_behindEnd_104 rfl (fun c104 => ?_) (fun c104 => ?_)
      · refine z_il1 eX3_behindEnd_113 ?_
        refine z_ki eX3_behindEnd_114 ?_
        refine z_iaddN eX3_behindEnd_115 (by omega) (by omega) ?_
        refine ze_i eX3_behindEnd_116 rfl ?_
        refine ⟨⟨fun z => ?_, fun z => ?_⟩, ?_, ?_⟩
        · unfold agP at z
          omega
        · unfold agP at z
          omega
        · exact xS_66 Hx _ _
        · exact zup_upD _ _ _ _
      · refine z_il2 eX3_behindEnd_107 ?_
        refine z_ki eX3_behindEnd_108 ?_
        refine z_iaddN eX3_behindEnd_109 (by omega) (by omega) ?_
        refine z_goto eX3_behindEnd_110 rfl ?_
        refine ze_i eX3_behindEnd_116 rfl ?_
        refine ⟨⟨fun z => ?_, fun z => ?_⟩, ?_, ?_⟩
        · unfold agP at z
          omega
        · unfold agP at z
          omega
        · exact xS_66 Hx _ _
        · exact zup_upD _ _ _ _
    · refine z_al0 eX3_behindEnd_74 ?_
      refine z_il2 eX3_behindEnd_75 ?_
      refine zc_vi1 eX3_behindEnd_76 lX3_84 tX3_isSo zs65 (by decide) (Nat.le_of_ble_eq_true rfl) (x_isSoS Hx hn (by omega) (by omega)) ?_
      rintro _ g2 ⟨rfl, Hx2, F⟩ -
      have so1 : soS h s S = 0 ∨ soS h s S = 1 := soV_01 _ _ _ _
      refine z_ine eX3_behindEnd_79 rfl (fun c79 => ?_) (fun c79 => ?_)
      · refine z_ki eX3_behindEnd_86 ?_
        refine z_is3 eX3_behindEnd_87 zn0 ?_
        refine z_goto eX3_behindEnd_88 rfl ?_
        refine z_al0 eX3_behindEnd_93 ?_
        refine z_ga eX3_behindEnd_94 fX3_11 zs65 (t := 66) rfl ?_
        refine z_il2 eX3_behindEnd_97 ?_
        refine z_dup2 eX3_behindEnd_98 zn0 zn2 ?_
        refine zr_iN eX3_behindEnd_99 zs66 (j := n) (by omega) (by omega) ?_
        rw [F 66 (by decide)]
        refine z_ki eX3_behindEnd_100 ?_
        refine z_iadd eX3_behindEnd_101 ?_
        refine zs_iN eX3_behindEnd_102 zs66 (j := n) (by omega) (by omega) ?_
        refine z_il3 eX3_behindEnd_103 ?_
        refine z_ieq eX3_behindEnd_104 rfl (fun c104 => ?_) (fun c104 => ?_)
        · refine z_il1 eX3_behindEnd_113 ?_
          refine z_ki eX3_behindEnd_114 ?_
          refine z_iaddN eX3_behindEnd_115 (by omega) (by omega) ?_
          refine ze_i eX3_behindEnd_116 rfl ?_
          refine ⟨⟨fun z => ?_, fun z => ?_⟩, ?_, ?_⟩
          · unfold agP at z
            omega
          · unfold agP at z
            omega
          · exact xS_66 Hx2 _ _
          · rw [zup_upD, F 66 (by decide)]
        · refine z_il2 eX3_behindEnd_107 ?_
          refine z_ki eX3_behindEnd_108 ?_
          refine z_iaddN eX3_behindEnd_109 (by omega) (by omega) ?_
          refine z_goto eX3_behindEnd_110 rfl ?_
          refine ze_i eX3_behindEnd_116 rfl ?_
          refine ⟨⟨fun z => ?_, fun z => ?_⟩, ?_, ?_⟩
          · unfold agP at z
            omega
          · unfold agP at z
            omega
          · exact xS_66 Hx2 _ _
          · rw [zup_upD, F 66 (by decide)]
      · refine z_ki eX3_behindEnd_82 ?_
        refine z_goto eX3_behindEnd_83 rfl ?_
        refine z_is3 eX3_behindEnd_87 zn0 ?_
        refine z_goto eX3_behindEnd_88 rfl ?_
        refine z_al0 eX3_behindEnd_93 ?_
        refine z_ga eX3_behindEnd_94 fX3_11 zs65 (t := 66) rfl ?_
        refine z_il2 eX3_behindEnd_97 ?_
        refine z_dup2 eX3_behindEnd_98 zn0 zn2 ?_
        refine zr_iN eX3_behindEnd_99 zs66 (j := n) (by omega) (by omega) ?_
        rw [F 66 (by decide)]
        refine z_ki eX3_behindEnd_100 ?_
        refine z_iadd eX3_behindEnd_101 ?_
        refine zs_iN eX3_behindEnd_102 zs66 (j := n) (by omega) (by omega) ?_
        refine z_il3 eX3_behindEnd_103 ?_
        refine z_ieq eX3_behindEnd_104 rfl (fun c104 => ?_) (fun c104 => ?_)
        · refine z_il1 eX3_behindEnd_113 ?_
          refine z_ki eX3_behindEnd_114 ?_
          refine z_iaddN eX3_behindEnd_115 (by omega) (by omega) ?_
          refine ze_i eX3_behindEnd_116 rfl ?_
          refine ⟨⟨fun z => ?_, fun z => ?_⟩, ?_, ?_⟩
          · unfold agP at z
            omega
          · unfold agP at z
            omega
          · exact xS_66 Hx2 _ _
          · rw [zup_upD, F 66 (by decide)]
        · refine z_il2 eX3_behindEnd_107 ?_
          refine z_ki eX3_behindEnd_108 ?_
          refine z_iaddN eX3_behindEnd_109 (by omega) (by omega) ?_
          refine z_goto eX3_behindEnd_110 rfl ?_
          refine ze_i eX3_behindEnd_116 rfl ?_
          refine ⟨⟨fun z => ?_, fun z => ?_⟩, ?_, ?_⟩
          · unfold agP at z
            omega
          · unfold agP at z
            omega
          · exact xS_66 Hx2 _ _
          · rw [zup_upD, F 66 (by decide)]
  by_cases q9_6 : h 126 s = 6
  · rw [q9_6]
    refine zt_lk eX3_behindEnd_9 (by decide) (off := 82) rfl (na := 91) rfl ?_
    refine z_ki eX3_behindEnd_91 ?_
    refine z_is3 eX3_behindEnd_92 zn0 ?_
    refine z_al0 eX3_behindEnd_93 ?_
    refine z_ga eX3_behindEnd_94 fX3_11 zs65 (t := 66) rfl ?_
    refine z_il2 eX3_behindEnd_97 ?_
    refine z_dup2 eX3_behindEnd_98 zn0 zn2 ?_
    refine zr_iN eX3_behindEnd_99 zs66 (j := n) (by omega) (by omega) ?_
    refine z_ki eX3_behindEnd_100 ?_
    refine z_iadd eX3_behindEnd_101 ?_
    refine zs_iN eX3_behindEnd_102 zs66 (j := n) (by omega) (by omega) ?_
    refine z_il3 eX3_behindEnd_103 ?_
    refine z_ieq eX3_behindEnd_104 rfl (fun c104 => ?_) (fun c104 => ?_)
    · refine z_il1 eX3_behindEnd_113 ?_
      refine z_ki eX3_behindEnd_114 ?_
      refine z_iaddN eX3_behindEnd_115 (by omega) (by omega) ?_
      refine ze_i eX3_behindEnd_116 rfl ?_
      refine ⟨⟨fun z => ?_, fun z => ?_⟩, ?_, ?_⟩
      · unfold agP at z
        omega
      · unfold agP at z
        omega
      · exact xS_66 Hx _ _
      · exact zup_upD _ _ _ _
    · refine z_il2 eX3_behindEnd_107 ?_
      refine z_ki eX3_behindEnd_108 ?_
      refine z_iaddN eX3_behindEnd_109 (by omega) (by omega) ?_
      refine z_goto eX3_behindEnd_110 rfl ?_
      refine ze_i eX3_behindEnd_116 rfl ?_
      refine ⟨⟨fun z => ?_, fun z => ?_⟩, ?_, ?_⟩
      · unfold agP at z
        omega
      · unfold agP at z
        omega
      · exact xS_66 Hx _ _
      · exact zup_upD _ _ _ _
  exfalso; omega
