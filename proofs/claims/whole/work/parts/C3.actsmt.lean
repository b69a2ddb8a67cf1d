-- the reference's acts (written by wip/tools/specK3b.py)
def cpA (g f : zHp) (k : Nat) : Prop := (∀ c : Nat, ¬ (126 ≤ c ∧ c ≤ 129) → ¬ c = 134 → f c = g c) ∧ ∀ j : Nat, j < k → f 126 j = g 130 j ∧ f 127 j = g 131 j ∧ f 128 j = g 132 j ∧ f 129 j = g 133 j ∧ f 134 j = g 135 j
def nwA (h : zHp) : zHp := fun c => if c = 126 then h 130 else if c = 127 then h 131 else if c = 128 then h 132 else if c = 129 then h 133 else h 135
/-- what the reference's acts come to -/
def mAp (h0 : zHp) (R : Rs) (v : Int) (h : zHp) : Prop := match R with
  | .inl e => (-1 : Int) = v ∧ ∃ g, mAx h0 e.1 e.2 g ∧ zup (zup (zup g 117 10 e.1) 117 11 (e.2 : Int)) 117 0 10 = h
  | .inr t => (t.2.1 : Int) = v ∧ t.2.1 ≤ 40 ∧ (t.2.2.2.2.1 = 0 ∨ t.2.2.2.2.1 = 1) ∧ ∃ g, mAf h0 g ∧ mAr g t.2.2.2.2.2 ∧ cpA (zup (zup (zup (zup g 117 10 0) 117 11 (-1)) 117 26 (t.2.1 : Int)) 117 33 t.2.2.2.2.1) h t.2.1
theorem r_ac_c (g : zHp) (n : Int) (s : Nat) (hs : s ≤ 40) (e26 : g 117 26 = (s : Int)) : ∀ (r k : Nat) (f : zHp), k + r = s → cpA g f k → zRW mX12_acts 9 (0, 0) 82 [zA 117, zI n, zI k] [] 143 f (zqi (fun v h' => (s : Int) = v ∧ cpA g h' s)) := by
  intro r
  induction r using Nat.strongRecOn with
  | ind r ih =>
    intro k f hk C
    have f26 : f 117 26 = (s : Int) := by rw [C.1 117 (by omega) (by decide)]; exact e26
    refine z_il2 eX12_acts_82 ?_
    refine z_al0 eX12_acts_83 ?_
    refine z_gi eX12_acts_84 fX12_495 zs117 ?_
    refine z_cge eX12_acts_87 rfl (fun c87 => ?_) (fun c87 => ?_)
    · refine z_al0 eX12_acts_156 ?_
      refine z_gi eX12_acts_157 fX12_495 zs117 ?_
      rw [f26]
      refine ze_i eX12_acts_160 rfl ?_
      have e : k = s := by omega
      subst e
      exact ⟨rfl, C⟩
    · refine z_al0 eX12_acts_90 ?_
      refine z_ga eX12_acts_91 fX12_47 zs117 (t := 126) rfl ?_
      refine z_il2 eX12_acts_94 ?_
      refine z_al0 eX12_acts_95 ?_
      refine z_ga eX12_acts_96 fX12_59 zs117 (t := 130) rfl ?_
      refine z_il2 eX12_acts_99 ?_
      refine zr_iN eX12_acts_100 zs130 (j := k) (by omega) (by omega) ?_
      rw [C.1 130 (by omega) (by decide)]
      refine zs_iN eX12_acts_101 zs126 (j := k) (by omega) (by omega) ?_
      refine z_al0 eX12_acts_102 ?_
      refine z_ga eX12_acts_103 fX12_50 zs117 (t := 127) rfl ?_
      refine z_il2 eX12_acts_106 ?_
      refine z_al0 eX12_acts_107 ?_
      refine z_ga eX12_acts_108 fX12_62 zs117 (t := 131) rfl ?_
      refine z_il2 eX12_acts_111 ?_
      refine zr_iN eX12_acts_112 zs131 (j := k) (by omega) (by omega) ?_
      rw [zup_off (by decide), C.1 131 (by omega) (by decide)]
      refine zs_iN eX12_acts_113 zs127 (j := k) (by omega) (by omega) ?_
      refine z_al0 eX12_acts_114 ?_
      refine z_ga eX12_acts_115 fX12_53 zs117 (t := 128) rfl ?_
      refine z_il2 eX12_acts_118 ?_
      refine z_al0 eX12_acts_119 ?_
      refine z_ga eX12_acts_120 fX12_65 zs117 (t := 132) rfl ?_
      refine z_il2 eX12_acts_123 ?_
      refine zr_iN eX12_acts_124 zs132 (j := k) (by omega) (by omega) ?_
      rw [zup_off (by decide), zup_off (by decide), C.1 132 (by omega) (by decide)]
      refine zs_iN eX12_acts_125 zs128 (j := k) (by omega) (by omega) ?_
      refine z_al0 eX12_acts_126 ?_
      refine z_ga eX12_acts_127 fX12_56 zs117 (t := 129) rfl ?_
      refine z_il2 eX12_acts_130 ?_
      refine z_al0 eX12_acts_131 ?_
      refine z_ga eX12_acts_132 fX12_68 zs117 (t := 133) rfl ?_
      refine z_il2 eX12_acts_135 ?_
      refine zr_iN eX12_acts_136 zs133 (j := k) (by omega) (by omega) ?_
      rw [zup_off (by decide), zup_off (by decide), zup_off (by decide), C.1 133 (by omega) (by decide)]
      refine zs_iN eX12_acts_137 zs129 (j := k) (by omega) (by omega) ?_
      refine z_al0 eX12_acts_138 ?_
      refine z_ga eX12_acts_139 fX12_71 zs117 (t := 134) rfl ?_
      refine z_il2 eX12_acts_142 ?_
      refine z_al0 eX12_acts_143 ?_
      refine z_ga eX12_acts_144 fX12_74 zs117 (t := 135) rfl ?_
      refine z_il2 eX12_acts_147 ?_
      refine zr_lN eX12_acts_148 zs135 (j := k) (by omega) (by omega) ?_
      rw [zup_off (by decide), zup_off (by decide), zup_off (by decide), zup_off (by decide), C.1 135 (by omega) (by decide)]
      refine zs_lN eX12_acts_149 zs134 (j := k) (by omega) (by omega) ?_
      refine z_incN2 eX12_acts_150 zn0 (by omega) (by omega) ?_
      refine z_goto eX12_acts_153 rfl ?_
      refine ih (r - 1) (by omega) (k + 1) _ (by omega) ⟨fun c c1 c2 => ?_, fun j hj => ?_⟩
      · rw [zup_off c2, zup_off (by omega), zup_off (by omega), zup_off (by omega), zup_off (by omega)]; exact C.1 c c1 c2
      · by_cases z : j = k
        · subst z
          refine ⟨?_, ?_, ?_, ?_, ?_⟩
          · rw [zup_off (by decide), zup_off (by decide), zup_off (by decide), zup_off (by decide), zup_at]
          · rw [zup_off (by decide), zup_off (by decide), zup_off (by decide), zup_at]
          · rw [zup_off (by decide), zup_off (by decide), zup_at]
          · rw [zup_off (by decide), zup_at]
          · rw [zup_at]
        · have q := C.2 j (by omega)
          refine ⟨?_, ?_, ?_, ?_, ?_⟩
          · rw [zup_off (by decide), zup_off (by decide), zup_off (by decide), zup_off (by decide), zup_ne (by omega)]; exact q.1
          · rw [zup_off (by decide), zup_off (by decide), zup_off (by decide), zup_ne (by omega), zup_off (by decide)]; exact q.2.1
          · rw [zup_off (by decide), zup_off (by decide), zup_ne (by omega), zup_off (by decide), zup_off (by decide)]; exact q.2.2.1
          · rw [zup_off (by decide), zup_ne (by omega), zup_off (by decide), zup_off (by decide), zup_off (by decide)]; exact q.2.2.2.1
          · rw [zup_ne (by omega), zup_off (by decide), zup_off (by decide), zup_off (by decide), zup_off (by decide)]; exact q.2.2.2.2
theorem r_ac_b (h0 : zHp) (n : Int) (k : Int) (a : Nat) (g : zHp) (X : mAx h0 k a g) : zRW mX12_acts 9 (0, 0) 33 [zA 117, zI n, zU] [] 143 g (zqi (fun v h' => mAp h0 (.inl (k, a)) v h')) := by
  refine z_al0 eX12_acts_33 ?_
  refine z_gi eX12_acts_34 fX12_201 zs117 ?_
  refine z_ine eX12_acts_37 rfl (fun c37 => ?_) (fun c37 => ?_)
  · refine z_al0 eX12_acts_55 ?_
    refine zc_vi0 eX12_acts_56 lX12_258 tX12_isWell zs117 (by decide) (Nat.le_of_ble_eq_true rfl) (r_wellN _ k a X.2.1 X.2.2.1 X.2.2.2) ?_
    rintro _ _ ⟨rfl, rfl⟩ -
    refine z_ine eX12_acts_59 rfl (fun c59 => ?_) (fun c59 => ?_)
    · exact absurd rfl c59
    · refine z_ki eX12_acts_62 ?_
      refine ze_i eX12_acts_63 rfl ?_
      exact ⟨rfl, g, X, rfl⟩
  · have := X.b; omega
theorem r_ac_l (h0 : zHp) (B : Nat → Int) (L : Nat) (n : Int) (T0 : Rs) : ∀ (r q s n2 : Nat) (sp : Int) (A g : zHp), q + r = L → s ≤ 40 → (sp = 0 ∨ sp = 1) → mA h0 B L q s sp A g → T0 = itR B L (q, s, n2, [], sp, A) → zRW mX12_acts 9 (0, 0) 33 [zA 117, zI n, zU] [] 143 g (zqi (fun v h' => mAp h0 T0 v h')) := by
  intro r
  induction r using Nat.strongRecOn with
  | ind r ih =>
    intro q s n2 sp A g hk hs hsp M hT
    have hb := M.hb
    have t14 := M.T.1
    refine z_al0 eX12_acts_33 ?_
    refine z_gi eX12_acts_34 fX12_201 zs117 ?_
    refine z_ine eX12_acts_37 rfl (fun c37 => ?_) (fun c37 => ?_)
    · exact absurd hb c37
    · refine z_al0 eX12_acts_40 ?_
      refine z_gi eX12_acts_41 fX12_149 zs117 ?_
      refine z_ieq eX12_acts_44 rfl (fun c44 => ?_) (fun c44 => ?_)
      · refine z_al0 eX12_acts_55 ?_
        refine zc_vi0 eX12_acts_56 lX12_258 tX12_isWell zs117 (by decide) (Nat.le_of_ble_eq_true rfl) (r_wellY _ hb) ?_
        rintro _ _ ⟨rfl, rfl⟩ -
        refine z_ine eX12_acts_59 rfl (fun c59 => ?_) (fun c59 => ?_)
        · refine z_al0 eX12_acts_64 ?_
          refine z_al0 eX12_acts_65 ?_
          refine z_gi eX12_acts_66 fX12_482 zs117 ?_
          rw [zup_ne (by decide), zup_ne (by decide), M.gs]
          refine z_pi eX12_acts_69 pX12_495 zs117 ?_
          refine z_al0 eX12_acts_72 ?_
          refine z_al0 eX12_acts_73 ?_
          refine z_gi eX12_acts_74 fX12_485 zs117 ?_
          rw [zup_ne (by decide), zup_ne (by decide), zup_ne (by decide), M.gp]
          refine z_pz eX12_acts_77 pX12_498 zs117 (by omega) ?_
          refine z_ki eX12_acts_80 ?_
          refine z_is2 eX12_acts_81 zn0 ?_
          rw [itR_0 M.hq (by omega), if_pos rfl] at hT
          rw [hT]
          exact z_wki (r_ac_c _ n s hs (by rw [zup_ne (by decide), zup_at]) s 0 _ (by omega) ⟨fun _ _ _ => rfl, fun j hj => by omega⟩) (fun v f y => ⟨y.1, hs, hsp, g, M.1, M.r, y.2⟩)
        · exact absurd c59 (by decide)
      · refine z_al0 eX12_acts_47 ?_
        refine z_ki eX12_acts_48 ?_
        rw [show (0 : Int) = ((0 : Nat) : Int) from rfl]
        refine zc_vv1 eX12_acts_49 lX12_492 tX12_readStep zs117 (by decide) (Nat.le_of_ble_eq_true rfl) (r_steps h0 g B L q s n2 [] sp A rfl hs hsp M (fun z => by omega) (fun _ => rfl)) ?_
        rintro g1 S1
        refine z_goto eX12_acts_52 rfl ?_
        rcases S1 with ⟨k, a, e, X1⟩ | ⟨q3, s3, n3, sp3, A3, e, hq3, hs3, hsp3, M3⟩
        · rw [hT, e]
          exact r_ac_b h0 n k a g1 X1
        · exact ih (L - q3) (by have := M3.hq; omega) q3 s3 n3 sp3 A3 g1 (by have := M3.hq; omega) hs3 hsp3 M3 (hT.trans e)
theorem r_actsN (h : zHp) (n : Int) (hc : n < 0 ∨ h 117 8 < n ∨ 300 < n) : zCi mX12_acts 9 [zA 117, zI n] h (fun v h' => pM0 h (-1, 5) v h') := by
  refine z_enter [zA 117, zI n, zU] (by decide +kernel) (Nat.le_of_ble_eq_true rfl) rfl (fun hra hrg => ?_)
  refine z_al0 eX12_acts_0 ?_
  refine z_ki eX12_acts_1 ?_
  refine z_pi eX12_acts_2 pX12_98 zs117 ?_
  refine z_al0 eX12_acts_5 ?_
  refine z_ki eX12_acts_6 ?_
  refine z_pi eX12_acts_7 pX12_101 zs117 ?_
  generalize hg : zup (zup h 117 1 0) 117 0 0 = g
  obtain ⟨ga, gf, g0⟩ := m_g hg
  refine z_al0 eX12_acts_10 ?_
  refine z_il1 eX12_acts_11 ?_
  refine z_ki eX12_acts_12 ?_
  refine zc_vi2 eX12_acts_15 lX12_245 tX12_opens zs117 (by decide) (Nat.le_of_ble_eq_true rfl) (r_opensN _ _ _ (by rw [gf 8 (by decide) (by decide)]; exact hc)) ?_
  rintro _ _ ⟨rfl, rfl⟩ -
  refine z_ine eX12_acts_18 rfl (fun c18 => ?_) (fun c18 => ?_)
  · exact absurd rfl c18
  · refine z_ki eX12_acts_21 ?_
    refine ze_i eX12_acts_22 rfl ?_
    exact pM0_fr hg zMf.rf rfl
theorem r_actsY (h : zHp) (B : Nat → Int) (L : Nat) (hL : (L : Int) ≤ h 117 8) (h300 : L ≤ 300) (hBy : ∀ i : Nat, i < L → h 121 i = B i ∧ -128 ≤ B i ∧ B i ≤ 127) : zCi mX12_acts 9 [zA 117, zI L] h (fun v h' => ∃ g, opP (zup (zup h 117 1 0) 117 0 0) B L g ∧ mAp g (itR B L (0, 0, 0, [], 0, nwA h)) v h') := by
  refine z_enter [zA 117, zI L, zU] (by decide +kernel) (Nat.le_of_ble_eq_true rfl) rfl (fun hra hrg => ?_)
  refine z_al0 eX12_acts_0 ?_
  refine z_ki eX12_acts_1 ?_
  refine z_pi eX12_acts_2 pX12_98 zs117 ?_
  refine z_al0 eX12_acts_5 ?_
  refine z_ki eX12_acts_6 ?_
  refine z_pi eX12_acts_7 pX12_101 zs117 ?_
  generalize hg : zup (zup h 117 1 0) 117 0 0 = g
  obtain ⟨ga, gf, g0⟩ := m_g hg
  have hBy2 : ∀ i : Nat, i < L → g 121 i = B i ∧ -128 ≤ B i ∧ B i ≤ 127 := fun i hi => by rw [ga 121 (by decide)]; exact hBy i hi
  refine z_al0 eX12_acts_10 ?_
  refine z_il1 eX12_acts_11 ?_
  refine z_ki eX12_acts_12 ?_
  refine zc_vi2 eX12_acts_15 lX12_245 tX12_opens zs117 (by decide) (Nat.le_of_ble_eq_true rfl) (r_opensY g B L 300 (by rw [gf 8 (by decide) (by decide)]; exact hL) (by omega) (by omega) hBy2) ?_
  rintro _ g1 ⟨rfl, O⟩ -
  refine z_ine eX12_acts_18 rfl (fun c18 => ?_) (fun c18 => ?_)
  · refine z_al0 eX12_acts_23 ?_
    refine z_ki eX12_acts_24 ?_
    refine z_pi eX12_acts_25 pX12_482 zs117 ?_
    refine z_al0 eX12_acts_28 ?_
    refine z_ki eX12_acts_29 ?_
    refine z_pz eX12_acts_30 pX12_485 zs117 (by first | exact Or.inl rfl | exact Or.inr rfl) ?_
    have M0 : mA g1 B L 0 0 (g1 117 34) (nwA h) (zup g1 117 27 ((0 : Nat) : Int)) := ⟨mAf.rf.up7 (by omega) _, ⟨by rw [zup_ne (by decide)]; exact O.2.2.2.1, by omega, fun i hi => by rw [zup_off (by decide), O.1 121 (by decide)]; exact hBy2 i hi⟩, by rw [zup_ne (by decide)]; exact O.2.2.2.2.1, Nat.zero_le _, O.2.2.2.2.2.cg (fun i hi => by rw [zup_ne (by omega)]), ⟨zup_at _ _ _ _, by rw [zup_ne (by decide)]⟩, by
      unfold mAr
      rw [zup_off (by decide), zup_off (by decide), zup_off (by decide), zup_off (by decide), zup_off (by decide), O.1 130 (by decide), O.1 131 (by decide), O.1 132 (by decide), O.1 133 (by decide), O.1 135 (by decide), ga 130 (by decide), ga 131 (by decide), ga 132 (by decide), ga 133 (by decide), ga 135 (by decide)]
      exact ⟨rfl, rfl, rfl, rfl, rfl⟩⟩
    exact z_wki (r_ac_l g1 B L L _ L 0 0 0 0 (nwA h) _ (by omega) (by omega) (Or.inl rfl) (M0.up34 0) rfl) (fun v f y => ⟨g1, O, y⟩)
  · exact absurd c18 (by decide)
