-- the class reads sorts, ties, a hall (written by wip/tools/specZ7.py)
theorem soI.cg {h g : zHp} {D D2 : Nat → Int} {s : Nat} (H : soI h D s) (e : g 19 s = h 19 s ∧ g 20 s = h 20 s ∧ g 21 s = h 21 s) (eD : D2 (20 + s) = D (20 + s) ∧ D2 (40 + s) = D (40 + s) ∧ D2 (60 + s) = D (60 + s)) : soI g D2 s := by
  unfold soI at H ⊢
  rw [e.1, e.2.1, e.2.2, eD.1, eD.2.1, eD.2.2]
  exact H
theorem hI.cg {h g : zHp} {D D2 W : Nat → Int} {ht : Int} (H : hI h D W ht) (e14 : g 14 = h 14) (e15 : g 15 = h 15) (e16 : g 16 = h 16) (e17 : g 17 = h 17) (e18 : g 18 = h 18) (es : ∀ s : Nat, s < nS D → g 19 s = h 19 s ∧ g 20 s = h 20 s ∧ g 21 s = h 21 s) (er : ∀ i : Nat, i < 8 * nS D → g 22 i = h 22 i ∧ g 23 i = h 23 i) (eD : ∀ j : Nat, j < 20 → D2 j = D j) (eD2 : ∀ s : Nat, s < nS D → D2 (20 + s) = D (20 + s) ∧ D2 (40 + s) = D (40 + s) ∧ D2 (60 + s) = D (60 + s)) (eD3 : ∀ j : Nat, j < 8 * nS D → D2 (80 + j) = D (80 + j)) : hI g D2 W ht := by
  obtain ⟨h1, h2, h3, h4, h5, h6, h7, h8, h9, h10⟩ := H
  have hn := nN_dN h1
  have eN : nN D2 = nN D := by unfold nN; rw [eD 0 (by omega)]
  have eS : nS D2 = nS D := by unfold nS; rw [eD 1 (by omega)]
  unfold hI hJ
  rw [eN, eS, e14, e15, e16, e17, e18, eD 2 (by omega), eD 0 (by omega), eD 1 (by omega)]
  refine ⟨by unfold dN; rw [eD 0 (by omega), eD 1 (by omega)]; exact h1, h2, h3, h4, h5, fun k hk => by rw [eD (3 + k) (by omega)]; exact h6 k hk, fun s hs => (h7 s hs).cg (es s hs) (eD2 s hs), fun s hs => ⟨(h8 s hs).1.cg (fun i i1 i2 => er i (by omega)), fun k hk => ?_⟩, h9, fun z => ⟨(h10 z).1, fun k hk => by rw [eD (11 + k) (by omega)]; exact (h10 z).2 k hk⟩⟩
  rw [(er (8 * s + k) (by omega)).1, show 80 + 8 * s + k = 80 + (8 * s + k) by omega, eD3 (8 * s + k) (by omega), ← show 80 + 8 * s + k = 80 + (8 * s + k) by omega]
  exact (h8 s hs).2 k hk
/-- the class after the options of a sort -/
def xRs (h0 : zHp) (B : Nat → Int) (L q0 s : Nat) (d0 d1 : Int) (W : Nat → Int) (ht : Int) (R : Rh) (v : Int) (g : zHp) : Prop := match R with
  | .inl e => (0 : Int) = v ∧ xXs 14 23 h0 e.1 e.2 g
  | .inr t => (1 : Int) = v ∧ q0 < t.1 ∧ t.1 ≤ L ∧ g 2 3 = (t.1 : Int) ∧ xTs 14 23 h0 B L g ∧ hI g t.2.1 W ht ∧ soI g t.2.1 s ∧ t.2.1 0 = d0 ∧ t.2.1 1 = d1
theorem x_so_l (h0 : zHp) (B : Nat → Int) (L q0 s : Nat) (d0 : Int) (W : Nat → Int) (ht : Int) (hs20 : s < 20) : ∀ (f i : Nat) (x y : Int) (q : Nat) (D : Nat → Int) (h : zHp), i + f = 3 → (x = 0 ∨ x = 1) → (y = 0 ∨ y = 1) → x + y = (i : Int) → xTs 14 23 h0 B L h → h 2 3 = (q : Int) → q ≤ L → q0 ≤ q → hI h D W ht → soI h D s → D 0 = d0 → D 1 = (s : Int) → zRW mX5_readSortOptions 5 (0, 0) 22 [zA 14, zA 2, zI s, zI x, zI y, zI i, zU] [] 143 h (zqi (fun v h' => xRs h0 B L q0 s d0 s W ht (soF B L s W ht f x y q D) v h')) := by
  intro f
  induction f with
  | zero => intro i x y q D h hf hx hy hxy; omega
  | succ f ih =>
    intro i x y q D h hf hx hy hxy S e3 hq hq0 I Z hD0 hD1
    have kb := tk_b (B := B) hq
    have kv := kC_v
    refine z_il5 eX5_readSortOptions_22 ?_
    refine z_ki eX5_readSortOptions_24 ?_
    refine z_cge eX5_readSortOptions_25 rfl (fun c25 => ?_) (fun c25 => ?_)
    · omega
    · refine z_al1 eX5_readSortOptions_28 ?_
      refine zc_vv0 eX5_readSortOptions_29 lX5_75 tX9_advance zs2 (by decide) (Nat.le_of_ble_eq_true rfl) (x_adv h B L S.2.1 q hq e3) ?_
      rintro g1 ⟨F1, T1⟩
      have S1 := S.fr F1
      refine z_al1 eX5_readSortOptions_32 ?_
      refine z_ldcS eX5_readSortOptions_33 sX5_136 ?_
      refine zc_vi1 eX5_readSortOptions_35 lX5_86 tX9_at zs2 (by decide) (Nat.le_of_ble_eq_true rfl) (x_at _ B L S1.2.1 q hq T1 5 (by decide)) ?_
      rintro _ _ ⟨rfl, rfl⟩ -
      refine z_ieq eX5_readSortOptions_38 rfl (fun c38 => ?_) (fun c38 => ?_)
      · have z38 := iteF c38
        refine z_al1 eX5_readSortOptions_43 ?_
        refine z_ldcS eX5_readSortOptions_44 sX5_135 ?_
        refine zc_vi1 eX5_readSortOptions_46 lX5_86 tX9_at zs2 (by decide) (Nat.le_of_ble_eq_true rfl) (x_at _ B L S1.2.1 q hq T1 4 (by decide)) ?_
        rintro _ _ ⟨rfl, rfl⟩ -
        refine z_is6 eX5_readSortOptions_49 zn0 ?_
        refine z_il6 eX5_readSortOptions_51 ?_
        refine z_ine eX5_readSortOptions_53 rfl (fun c53 => ?_) (fun c53 => ?_)
        · have z53 := iteT c53
          refine z_il6 eX5_readSortOptions_71 ?_
          refine z_ieq eX5_readSortOptions_73 rfl (fun c73 => ?_) (fun c73 => ?_)
          · exact absurd c73 c53
          · refine z_il3 eX5_readSortOptions_76 ?_
            refine z_ieq eX5_readSortOptions_77 rfl (fun c77 => ?_) (fun c77 => ?_)
            · refine z_al1 eX5_readSortOptions_94 ?_
              refine z_ki eX5_readSortOptions_95 ?_
              refine z_ki eX5_readSortOptions_96 ?_
              refine zc_vi2 eX5_readSortOptions_98 lX5_126 tX9_expectNumber zs2 (by decide) (Nat.le_of_ble_eq_true rfl) (x_expNumber _ B L S1.2.1 _ kb.2.2.1 (T1.2.2.2.2 (by omega)) _ _) ?_
              rintro v1 g4 ⟨g5, F5, T5, p1, p2⟩ -
              refine z_ine eX5_readSortOptions_101 rfl (fun c101 => ?_) (fun c101 => ?_)
              · have z9 : nuK B L (tkE B L q) 0 99 = 0 := by
                  by_cases z : nuK B L (tkE B L q) 0 99 = 0
                  · exact z
                  · exact absurd (p2 z).1.symm c101
                obtain ⟨-, rfl⟩ := p1 z9
                have k2 := nuK_b.2.1 z9
                have kb5 := tk_b (B := B) kb.2.2.1
                have Fg : ∀ c : Nat, ¬ c = 2 → g5 c = h c := fun c hc => (F5.1 c hc).trans (F1.1 c hc)
                refine z_il3 eX5_readSortOptions_106 ?_
                refine z_il6 eX5_readSortOptions_107 ?_
                refine z_ior eX5_readSortOptions_109 ?_
                rw [if_pos z53]
                have ex : x = 0 := by omega
                subst ex
                rw [show zor 0 1 = 1 from by decide]
                refine z_is3 eX5_readSortOptions_110 zn0 ?_
                refine z_il4 eX5_readSortOptions_111 ?_
                refine z_il6 eX5_readSortOptions_113 ?_
                refine z_ine eX5_readSortOptions_115 rfl (fun c115 => ?_) (fun c115 => ?_)
                · refine z_ki eX5_readSortOptions_122 ?_
                  refine z_ior eX5_readSortOptions_123 ?_
                  rw [zor0 (by unfold z32; omega)]
                  refine z_is4 eX5_readSortOptions_124 zn0 ?_
                  refine z_al0 eX5_readSortOptions_126 ?_
                  refine z_ga eX5_readSortOptions_127 fX5_28 zs14 (t := 20) rfl ?_
                  refine z_il2 eX5_readSortOptions_130 ?_
                  refine z_il6 eX5_readSortOptions_131 ?_
                  refine z_ieq eX5_readSortOptions_133 rfl (fun c133 => ?_) (fun c133 => ?_)
                  · exact absurd c133 (by decide)
                  · refine z_al1 eX5_readSortOptions_136 ?_
                    refine z_gi eX5_readSortOptions_137 fX5_129 zs2 ?_
                    refine z_goto eX5_readSortOptions_140 rfl ?_
                    rw [T5.2.2.2.1 k2.1]
                    refine zs_iN eX5_readSortOptions_149 zs20 (j := s) (by omega) (by omega) ?_
                    refine z_al0 eX5_readSortOptions_150 ?_
                    refine z_ga eX5_readSortOptions_151 fX5_31 zs14 (t := 21) rfl ?_
                    refine z_il2 eX5_readSortOptions_154 ?_
                    refine z_il6 eX5_readSortOptions_155 ?_
                    refine z_ieq eX5_readSortOptions_157 rfl (fun c157 => ?_) (fun c157 => ?_)
                    · exact absurd c157 (by decide)
                    · refine z_al0 eX5_readSortOptions_160 ?_
                      refine z_ga eX5_readSortOptions_161 fX5_31 zs14 (t := 21) rfl ?_
                      refine z_il2 eX5_readSortOptions_164 ?_
                      refine zr_iN eX5_readSortOptions_165 zs21 (j := s) (by omega) (by omega) ?_
                      refine z_goto eX5_readSortOptions_166 rfl ?_
                      rw [zup_off (by decide), show g5 21 s = D (60 + s) from by rw [Fg 21 (by decide)]; exact Z.2.2.1]
                      refine zs_iN eX5_readSortOptions_173 zs21 (j := s) (by omega) (by omega) ?_
                      refine z_incN5 eX5_readSortOptions_174 zn0 (by omega) (by omega) ?_
                      refine z_goto eX5_readSortOptions_177 rfl ?_
                      refine z_fg6 ?_
                      rw [soF_aG z53 (by omega) z9]
                      have hS : nS D = s := by unfold nS; omega
                      have e19 : ∀ (u w : Int) (c : Nat), ¬ c = 20 → ¬ c = 21 → ¬ c = 2 → zup (zup g5 20 s u) 21 s w c = h c := fun u w c c1 c2 c3 => by rw [zup_off c2, zup_off c1]; exact Fg c c3
                      refine ih (i + 1) _ _ _ (up D (40 + s) (tkV B L (tkE B L q))) _ (by omega) (by omega) (by omega) (by omega) (((S1.fr F5).up (c := 20) (by decide) (by decide) _ _).up (c := 21) (by decide) (by decide) _ _) ?_ kb5.2.2.1 (by omega) (hI.cg I (e19 _ _ 14 (by decide) (by decide) (by decide)) (e19 _ _ 15 (by decide) (by decide) (by decide)) (e19 _ _ 16 (by decide) (by decide) (by decide)) (e19 _ _ 17 (by decide) (by decide) (by decide)) (e19 _ _ 18 (by decide) (by decide) (by decide)) (fun t ht2 => ?_) (fun j hj => ?_) (fun j hj => up_ne (by omega)) (fun t ht2 => ⟨up_ne (by omega), up_ne (by omega), up_ne (by omega)⟩) (fun j hj => up_ne (by omega))) ?_ (by rw [up_ne (by omega)]; exact hD0) (by rw [up_ne (by omega)]; exact hD1)
                      · rw [zup_off (by decide), zup_off (by decide)]; exact T5.2.2.2.2 (by omega)
                      · rw [e19 _ _ 19 (by decide) (by decide) (by decide), zup_off (by decide), zup_ne (by omega), zup_ne (by omega), zup_off (by decide), Fg 20 (by decide), Fg 21 (by decide)]
                        exact ⟨rfl, rfl, rfl⟩
                      · rw [e19 _ _ 22 (by decide) (by decide) (by decide), e19 _ _ 23 (by decide) (by decide) (by decide)]
                        exact ⟨rfl, rfl⟩
                      · unfold soI
                        unfold soI at Z
                        rw [e19 _ _ 19 (by decide) (by decide) (by decide), zup_off (by decide), zup_at, zup_at]
                        rw [up_ne (by omega), up_at, up_ne (by omega)]
                        exact ⟨Z.1, rfl, rfl, Z.2.2.2.1, ⟨k2.2.1, k2.2.2⟩, Z.2.2.2.2.2⟩
                · exact absurd c115 (by decide)
              · have z9 : ¬ nuK B L (tkE B L q) 0 99 = 0 := fun z => by have := (p1 z).1; omega
                obtain ⟨-, rfl⟩ := p2 z9
                refine z_ki eX5_readSortOptions_104 ?_
                refine ze_z eX5_readSortOptions_105 rfl (by first | exact Or.inl rfl | exact Or.inr rfl) ?_
                rw [soF_aN z53 (by omega) z9]
                exact ⟨rfl, (S1.fr F5).bad _ _⟩
            · refine z_goto eX5_readSortOptions_80 rfl ?_
              refine z_al1 eX5_readSortOptions_88 ?_
              refine z_ki eX5_readSortOptions_89 ?_
              refine zc_vi1 eX5_readSortOptions_90 lX5_103 tX9_refuse zs2 (by decide) (Nat.le_of_ble_eq_true rfl) (x_ref T1 _) ?_
              rintro _ _ ⟨rfl, rfl⟩ -
              refine ze_z eX5_readSortOptions_93 rfl (by first | exact Or.inl rfl | exact Or.inr rfl) ?_
              rw [soF_a5 z53 (by omega)]
              have ef := fK_1 (k := tkK B L q) (n := 5) (by omega)
              rw [ef]
              exact ⟨rfl, S1.bad _ _⟩
        · have z53 := iteF c53
          refine z_al1 eX5_readSortOptions_56 ?_
          refine z_ldcS eX5_readSortOptions_57 sX5_124 ?_
          refine zc_vi1 eX5_readSortOptions_59 lX5_86 tX9_at zs2 (by decide) (Nat.le_of_ble_eq_true rfl) (x_at _ B L S1.2.1 q hq T1 2 (by decide)) ?_
          rintro _ _ ⟨rfl, rfl⟩ -
          refine z_ine eX5_readSortOptions_62 rfl (fun c62 => ?_) (fun c62 => ?_)
          · have z62 := iteT c62
            refine z_il6 eX5_readSortOptions_71 ?_
            refine z_ieq eX5_readSortOptions_73 rfl (fun c73 => ?_) (fun c73 => ?_)
            · refine z_il4 eX5_readSortOptions_83 ?_
              refine z_ieq eX5_readSortOptions_85 rfl (fun c85 => ?_) (fun c85 => ?_)
              · refine z_al1 eX5_readSortOptions_94 ?_
                refine z_ki eX5_readSortOptions_95 ?_
                refine z_ki eX5_readSortOptions_96 ?_
                refine zc_vi2 eX5_readSortOptions_98 lX5_126 tX9_expectNumber zs2 (by decide) (Nat.le_of_ble_eq_true rfl) (x_expNumber _ B L S1.2.1 _ kb.2.2.1 (T1.2.2.2.2 (by omega)) _ _) ?_
                rintro v1 g4 ⟨g5, F5, T5, p1, p2⟩ -
                refine z_ine eX5_readSortOptions_101 rfl (fun c101 => ?_) (fun c101 => ?_)
                · have z9 : nuK B L (tkE B L q) 0 99 = 0 := by
                    by_cases z : nuK B L (tkE B L q) 0 99 = 0
                    · exact z
                    · exact absurd (p2 z).1.symm c101
                  obtain ⟨-, rfl⟩ := p1 z9
                  have k2 := nuK_b.2.1 z9
                  have kb5 := tk_b (B := B) kb.2.2.1
                  have Fg : ∀ c : Nat, ¬ c = 2 → g5 c = h c := fun c hc => (F5.1 c hc).trans (F1.1 c hc)
                  refine z_il3 eX5_readSortOptions_106 ?_
                  refine z_il6 eX5_readSortOptions_107 ?_
                  refine z_ior eX5_readSortOptions_109 ?_
                  rw [if_neg z53, zor0 (by unfold z32; omega)]
                  refine z_is3 eX5_readSortOptions_110 zn0 ?_
                  refine z_il4 eX5_readSortOptions_111 ?_
                  refine z_il6 eX5_readSortOptions_113 ?_
                  refine z_ine eX5_readSortOptions_115 rfl (fun c115 => ?_) (fun c115 => ?_)
                  · exact absurd rfl c115
                  · refine z_ki eX5_readSortOptions_118 ?_
                    refine z_goto eX5_readSortOptions_119 rfl ?_
                    refine z_ior eX5_readSortOptions_123 ?_
                    have ey : y = 0 := by omega
                    subst ey
                    rw [show zor 0 1 = 1 from by decide]
                    refine z_is4 eX5_readSortOptions_124 zn0 ?_
                    refine z_al0 eX5_readSortOptions_126 ?_
                    refine z_ga eX5_readSortOptions_127 fX5_28 zs14 (t := 20) rfl ?_
                    refine z_il2 eX5_readSortOptions_130 ?_
                    refine z_il6 eX5_readSortOptions_131 ?_
                    refine z_ieq eX5_readSortOptions_133 rfl (fun c133 => ?_) (fun c133 => ?_)
                    · refine z_al0 eX5_readSortOptions_143 ?_
                      refine z_ga eX5_readSortOptions_144 fX5_28 zs14 (t := 20) rfl ?_
                      refine z_il2 eX5_readSortOptions_147 ?_
                      refine zr_iN eX5_readSortOptions_148 zs20 (j := s) (by omega) (by omega) ?_
                      rw [show g5 20 s = D (40 + s) from by rw [Fg 20 (by decide)]; exact Z.2.1]
                      refine zs_iN eX5_readSortOptions_149 zs20 (j := s) (by omega) (by omega) ?_
                      refine z_al0 eX5_readSortOptions_150 ?_
                      refine z_ga eX5_readSortOptions_151 fX5_31 zs14 (t := 21) rfl ?_
                      refine z_il2 eX5_readSortOptions_154 ?_
                      refine z_il6 eX5_readSortOptions_155 ?_
                      refine z_ieq eX5_readSortOptions_157 rfl (fun c157 => ?_) (fun c157 => ?_)
                      · refine z_al1 eX5_readSortOptions_169 ?_
                        refine z_gi eX5_readSortOptions_170 fX5_129 zs2 ?_
                        rw [zup_off (by decide), T5.2.2.2.1 k2.1]
                        refine zs_iN eX5_readSortOptions_173 zs21 (j := s) (by omega) (by omega) ?_
                        refine z_incN5 eX5_readSortOptions_174 zn0 (by omega) (by omega) ?_
                        refine z_goto eX5_readSortOptions_177 rfl ?_
                        refine z_fg6 ?_
                        rw [soF_cG z62 (by omega) z9]
                        have hS : nS D = s := by unfold nS; omega
                        have e19 : ∀ (u w : Int) (c : Nat), ¬ c = 20 → ¬ c = 21 → ¬ c = 2 → zup (zup g5 20 s u) 21 s w c = h c := fun u w c c1 c2 c3 => by rw [zup_off c2, zup_off c1]; exact Fg c c3
                        refine ih (i + 1) _ _ _ (up D (60 + s) (tkV B L (tkE B L q))) _ (by omega) (by omega) (by omega) (by omega) (((S1.fr F5).up (c := 20) (by decide) (by decide) _ _).up (c := 21) (by decide) (by decide) _ _) ?_ kb5.2.2.1 (by omega) (hI.cg I (e19 _ _ 14 (by decide) (by decide) (by decide)) (e19 _ _ 15 (by decide) (by decide) (by decide)) (e19 _ _ 16 (by decide) (by decide) (by decide)) (e19 _ _ 17 (by decide) (by decide) (by decide)) (e19 _ _ 18 (by decide) (by decide) (by decide)) (fun t ht2 => ?_) (fun j hj => ?_) (fun j hj => up_ne (by omega)) (fun t ht2 => ⟨up_ne (by omega), up_ne (by omega), up_ne (by omega)⟩) (fun j hj => up_ne (by omega))) ?_ (by rw [up_ne (by omega)]; exact hD0) (by rw [up_ne (by omega)]; exact hD1)
                        · rw [zup_off (by decide), zup_off (by decide)]; exact T5.2.2.2.2 (by omega)
                        · rw [e19 _ _ 19 (by decide) (by decide) (by decide), zup_off (by decide), zup_ne (by omega), zup_ne (by omega), zup_off (by decide), Fg 20 (by decide), Fg 21 (by decide)]
                          exact ⟨rfl, rfl, rfl⟩
                        · rw [e19 _ _ 22 (by decide) (by decide) (by decide), e19 _ _ 23 (by decide) (by decide) (by decide)]
                          exact ⟨rfl, rfl⟩
                        · unfold soI
                          unfold soI at Z
                          rw [e19 _ _ 19 (by decide) (by decide) (by decide), zup_off (by decide), zup_at, zup_at]
                          rw [up_ne (by omega), up_ne (by omega), up_at]
                          exact ⟨Z.1, rfl, rfl, Z.2.2.2.1, Z.2.2.2.2.1, ⟨k2.2.1, k2.2.2⟩⟩
                      · exact absurd rfl c157
                    · exact absurd rfl c133
                · have z9 : ¬ nuK B L (tkE B L q) 0 99 = 0 := fun z => by have := (p1 z).1; omega
                  obtain ⟨-, rfl⟩ := p2 z9
                  refine z_ki eX5_readSortOptions_104 ?_
                  refine ze_z eX5_readSortOptions_105 rfl (by first | exact Or.inl rfl | exact Or.inr rfl) ?_
                  rw [soF_cN z62 (by omega) z9]
                  exact ⟨rfl, (S1.fr F5).bad _ _⟩
              · refine z_al1 eX5_readSortOptions_88 ?_
                refine z_ki eX5_readSortOptions_89 ?_
                refine zc_vi1 eX5_readSortOptions_90 lX5_103 tX9_refuse zs2 (by decide) (Nat.le_of_ble_eq_true rfl) (x_ref T1 _) ?_
                rintro _ _ ⟨rfl, rfl⟩ -
                refine ze_z eX5_readSortOptions_93 rfl (by first | exact Or.inl rfl | exact Or.inr rfl) ?_
                rw [soF_c5 z62 (by omega)]
                have ef := fK_1 (k := tkK B L q) (n := 5) (by omega)
                rw [ef]
                exact ⟨rfl, S1.bad _ _⟩
            · exact absurd c53 c73
          · have z62 := iteF c62
            refine z_al1 eX5_readSortOptions_65 ?_
            refine z_ki eX5_readSortOptions_66 ?_
            refine zc_vi1 eX5_readSortOptions_67 lX5_103 tX9_refuse zs2 (by decide) (Nat.le_of_ble_eq_true rfl) (x_ref T1 _) ?_
            rintro _ _ ⟨rfl, rfl⟩ -
            refine ze_z eX5_readSortOptions_70 rfl (by first | exact Or.inl rfl | exact Or.inr rfl) ?_
            rw [soF_x z53 z62, if_neg z38]
            exact ⟨rfl, S1.bad _ _⟩
      · have z38 := iteT c38
        refine z_ki eX5_readSortOptions_41 ?_
        refine ze_z eX5_readSortOptions_42 rfl (by first | exact Or.inl rfl | exact Or.inr rfl) ?_
        have eR : soF B L s W ht (f + 1) x y q D = .inr (tkE B L q, D, W, ht) := by rw [soF, if_pos z38]
        rw [eR]
        exact ⟨rfl, by show q0 < tkE B L q; have := kb.2.2.2.1 (by omega); omega, kb.2.2.1, T1.2.2.2.2 (by omega), S1, hJ.fr I F1.1, Z.cg (by rw [F1.1 19 (by decide), F1.1 20 (by decide), F1.1 21 (by decide)]; exact ⟨rfl, rfl, rfl⟩) ⟨rfl, rfl, rfl⟩, hD0, hD1⟩
theorem x_sortOpt (h0 h : zHp) (B : Nat → Int) (L q q0 s : Nat) (D W : Nat → Int) (ht : Int) (S : xTs 14 23 h0 B L h) (e3 : h 2 3 = (q : Int)) (hq : q ≤ L) (hq0 : q0 ≤ q) (I : hI h D W ht) (hD1 : D 1 = (s : Int)) (hs20 : s < 20) (e19 : h 19 s = D (20 + s)) (b19 : 0 ≤ D (20 + s) ∧ D (20 + s) ≤ 99) : zCi mX5_readSortOptions 5 [zA 14, zA 2, zI s] h (fun v h' => xRs h0 B L q0 s (D 0) s W ht (soF B L s W ht 3 0 0 q (up (up D (40 + s) 0) (60 + s) 1)) v h') := by
  refine z_enter [zA 14, zA 2, zI s, zU, zU, zU, zU] (by decide +kernel) (Nat.le_of_ble_eq_true rfl) rfl (fun hra hrg => ?_)
  refine z_ki eX5_readSortOptions_0 ?_
  refine z_is3 eX5_readSortOptions_1 zn0 ?_
  refine z_ki eX5_readSortOptions_2 ?_
  refine z_is4 eX5_readSortOptions_3 zn0 ?_
  refine z_al0 eX5_readSortOptions_5 ?_
  refine z_ga eX5_readSortOptions_6 fX5_28 zs14 (t := 20) rfl ?_
  refine z_il2 eX5_readSortOptions_9 ?_
  refine z_ki eX5_readSortOptions_10 ?_
  refine zs_iN eX5_readSortOptions_11 zs20 (j := s) (by omega) (by omega) ?_
  refine z_al0 eX5_readSortOptions_12 ?_
  refine z_ga eX5_readSortOptions_13 fX5_31 zs14 (t := 21) rfl ?_
  refine z_il2 eX5_readSortOptions_16 ?_
  refine z_ki eX5_readSortOptions_17 ?_
  refine zs_iN eX5_readSortOptions_18 zs21 (j := s) (by omega) (by omega) ?_
  refine z_ki eX5_readSortOptions_19 ?_
  refine z_is5 eX5_readSortOptions_20 zn0 ?_
  have hS : nS D = s := by unfold nS; omega
  have ec : ∀ (u w : Int) (c : Nat), ¬ c = 20 → ¬ c = 21 → zup (zup h 20 s u) 21 s w c = h c := fun u w c c1 c2 => by rw [zup_off c2, zup_off c1]
  refine x_so_l h0 B L q0 s (D 0) W ht hs20 3 0 0 0 q _ _ (by omega) (Or.inl rfl) (Or.inl rfl) rfl ((S.up (c := 20) (by decide) (by decide) _ _).up (c := 21) (by decide) (by decide) _ _) (by rw [zup_off (by decide), zup_off (by decide)]; exact e3) hq hq0 (hI.cg I (ec _ _ 14 (by decide) (by decide)) (ec _ _ 15 (by decide) (by decide)) (ec _ _ 16 (by decide) (by decide)) (ec _ _ 17 (by decide) (by decide)) (ec _ _ 18 (by decide) (by decide)) (fun t ht2 => ?_) (fun j hj => ?_) (fun j hj => by rw [up_ne (by omega), up_ne (by omega)]) (fun t ht2 => ?_) (fun j hj => by rw [up_ne (by omega), up_ne (by omega)])) ?_ (by rw [up_ne (by omega), up_ne (by omega)]) (by rw [up_ne (by omega), up_ne (by omega)]; exact hD1)
  · rw [ec _ _ 19 (by decide) (by decide), zup_off (by decide), zup_ne (by omega), zup_ne (by omega), zup_off (by decide)]
    exact ⟨rfl, rfl, rfl⟩
  · rw [ec _ _ 22 (by decide) (by decide), ec _ _ 23 (by decide) (by decide)]
    exact ⟨rfl, rfl⟩
  · rw [up_ne (by omega), up_ne (by omega), up_ne (by omega), up_ne (by omega), up_ne (by omega), up_ne (by omega)]
    exact ⟨rfl, rfl, rfl⟩
  · unfold soI
    rw [ec _ _ 19 (by decide) (by decide), zup_off (by decide), zup_at, zup_at, up_ne (by omega), up_ne (by omega), up_ne (by omega), up_at, up_at]
    exact ⟨e19, rfl, rfl, b19, by omega, by omega⟩
theorem xRs01 {h0 g : zHp} {B : Nat → Int} {L q0 s : Nat} {d0 d1 : Int} {W : Nat → Int} {ht : Int} {R : Rh} {v : Int} (H : xRs h0 B L q0 s d0 d1 W ht R v g) : v = 0 ∨ v = 1 := by
  cases R with
  | inl e => exact Or.inl H.1.symm
  | inr s => exact Or.inr H.1.symm
theorem xRow01 {h0 h g : zHp} {B : Nat → Int} {L N cr cp b bD q0 : Nat} {D : Nat → Int} {R : Rh} {v : Int} (H : xRow h0 h B L N cr cp b bD q0 D R v g) : v = 0 ∨ v = 1 := by
  cases R with
  | inl e => exact Or.inl H.1.symm
  | inr s => exact Or.inr H.1.symm
theorem hI_so {h g f : zHp} {D D3 W : Nat → Int} {ht : Int} {s : Nat} (I : hI h D W ht) (Z : soI h D s) (hs : D 1 = (s : Int)) (hs20 : s < 20) (eg : ∀ c : Nat, ¬ c = 2 → ¬ c = 22 → ¬ c = 23 → g c = h c) (eg2 : ∀ i : Nat, ¬ (8 * s ≤ i ∧ i < 8 * s + 8) → g 22 i = h 22 i ∧ g 23 i = h 23 i) (R : rowI (nN D) (g 22) (g 23) (8 * s)) (R2 : ∀ k : Nat, k < nN D → g 22 (8 * s + k) = D3 (80 + 8 * s + k)) (eD : ∀ j : Nat, ¬ (80 + 8 * s ≤ j ∧ j < 80 + 8 * s + 8) → D3 j = D j) (ef : zup g 14 7 ((s : Int) + 1) = f) : hI f (up D3 1 (D3 1 + 1)) W ht := by
  obtain ⟨h1, h2, h3, h4, h5, h6, h7, h8, h9, h10⟩ := I
  have hn := nN_dN h1
  have hS : nS D = s := by unfold nS; omega
  have e1 : D3 1 = (s : Int) := by rw [eD 1 (by omega)]; exact hs
  have eN : nN (up D3 1 (D3 1 + 1)) = nN D := by unfold nN; rw [up_ne (by decide), eD 0 (by omega)]
  have eS : nS (up D3 1 (D3 1 + 1)) = s + 1 := by unfold nS; rw [up_at]; omega
  have cf : ∀ c : Nat, ¬ c = 14 → f c = g c := fun c hc => by rw [← ef, zup_off hc]
  have ch : ∀ c : Nat, ¬ c = 14 → ¬ c = 2 → ¬ c = 22 → ¬ c = 23 → f c = h c := fun c c1 c2 c3 c4 => (cf c c1).trans (eg c c2 c3 c4)
  have f14 : ∀ i : Nat, ¬ i = 7 → f 14 i = h 14 i := fun i hi => by rw [← ef, zup_ne (by omega), eg 14 (by decide) (by decide) (by decide)]
  have f7 : f 14 7 = (s : Int) + 1 := by rw [← ef, zup_at]
  have uD : ∀ j : Nat, ¬ j = 1 → ¬ (80 + 8 * s ≤ j ∧ j < 80 + 8 * s + 8) → up D3 1 (D3 1 + 1) j = D j := fun j j1 j2 => by rw [up_ne j1, eD j j2]
  unfold hI hJ
  rw [eN, eS, uD 2 (by omega) (by omega), f14 0 (by decide), f14 1 (by decide), f14 6 (by decide), f7, uD 0 (by omega) (by omega), up_at, e1]
  refine ⟨?_, h2, ⟨h3.1, h3.2.1, h3.2.2.1, rfl⟩, h4, fun k hk => ?_, fun k hk => ?_, fun t ht2 => ?_, fun t ht2 => ?_, fun z k hk => ?_, fun z => ?_⟩
  · unfold dN
    rw [← e1, uD 0 (by omega) (by omega), up_at, e1]
    unfold dN at h1
    omega
  · rw [ch 15 (by decide) (by decide) (by decide) (by decide)]; exact h5 k hk
  · rw [ch 16 (by decide) (by decide) (by decide) (by decide), ← e1, uD (3 + k) (by omega) (by omega)]; exact h6 k hk
  · have ez : soI h D t := by
      by_cases c : t = s
      · rw [c]; exact Z
      · exact h7 t (by omega)
    refine ez.cg ?_ ?_
    · rw [ch 19 (by decide) (by decide) (by decide) (by decide), ch 20 (by decide) (by decide) (by decide) (by decide), ch 21 (by decide) (by decide) (by decide) (by decide)]
      exact ⟨rfl, rfl, rfl⟩
    · rw [← e1, uD _ (by omega) (by omega), uD _ (by omega) (by omega), uD _ (by omega) (by omega)]
      exact ⟨rfl, rfl, rfl⟩
  · rw [cf 22 (by decide), cf 23 (by decide)]
    by_cases c : t = s
    · rw [c]
      exact ⟨R, fun k hk => by rw [R2 k hk, up_ne (by omega)]⟩
    · have q := h8 t (by omega)
      refine ⟨q.1.cg (fun i i1 i2 => eg2 i (by omega)), fun k hk => ?_⟩
      rw [(eg2 (8 * t + k) (by omega)).1, ← e1, uD _ (by omega) (by omega)]
      exact q.2 k hk
  · rw [ch 17 (by decide) (by decide) (by decide) (by decide), ch 18 (by decide) (by decide) (by decide) (by decide)]; exact h9 z k hk
  · rw [ch 17 (by decide) (by decide) (by decide) (by decide), ch 18 (by decide) (by decide) (by decide) (by decide)]
    exact ⟨(h10 z).1, fun k hk => by rw [← e1, uD _ (by omega) (by omega)]; exact (h10 z).2 k hk⟩
theorem hI_in {h g : zHp} {D W : Nat → Int} {ht v : Int} (I : hI h D W ht) (F : ∀ c : Nat, ¬ c = 2 → g c = h c) (h20 : nS D < 20) : hI (zup g 19 (nS D) v) (up D (20 + nS D) v) W ht := by
  have hn := nN_dN I.1
  have ec : ∀ c : Nat, ¬ c = 19 → ¬ c = 2 → zup g 19 (nS D) v c = h c := fun c c1 c2 => by rw [zup_off c1]; exact F c c2
  refine hI.cg I (ec 14 (by decide) (by decide)) (ec 15 (by decide) (by decide)) (ec 16 (by decide) (by decide)) (ec 17 (by decide) (by decide)) (ec 18 (by decide) (by decide)) (fun t ht2 => ?_) (fun j hj => ?_) (fun j hj => up_ne (by omega)) (fun t ht2 => ⟨up_ne (by omega), up_ne (by omega), up_ne (by omega)⟩) (fun j hj => up_ne (by omega))
  · rw [zup_ne (by omega), F 19 (by decide), ec 20 (by decide) (by decide), ec 21 (by decide) (by decide)]
    exact ⟨rfl, rfl, rfl⟩
  · rw [ec 22 (by decide) (by decide), ec 23 (by decide) (by decide)]
    exact ⟨rfl, rfl⟩
theorem x_readSort (h0 h : zHp) (B : Nat → Int) (L q : Nat) (D W : Nat → Int) (ht : Int) (S : xTs 14 23 h0 B L h) (T : xTk B L q h) (hq : q ≤ L) (I : hI h D W ht) (k1 : tkK B L q = 1) : zCi mX5_readSort 7 [zA 14, zA 2] h (fun v h' => xRd h0 B L q (sortF B L q D W ht) v h') := by
  refine z_enter [zA 14, zA 2, zU] (by decide +kernel) (Nat.le_of_ble_eq_true rfl) rfl (fun hra hrg => ?_)
  have kb := tk_b (B := B) hq
  have hn := nN_dN I.1
  have i3 := I.2.2.1
  refine z_al0 eX5_readSort_0 ?_
  refine z_gi eX5_readSort_1 fX5_51 zs14 ?_
  refine z_ki eX5_readSort_4 ?_
  refine z_clt eX5_readSort_6 rfl (fun c6 => ?_) (fun c6 => ?_)
  · refine z_al0 eX5_readSort_16 ?_
    refine z_gi eX5_readSort_17 fX5_51 zs14 ?_
    rw [i3.2.2.2, hn.2.2.1]
    refine z_is2 eX5_readSort_20 zn2 ?_
    refine z_al1 eX5_readSort_21 ?_
    refine z_ki eX5_readSort_22 ?_
    refine z_ki eX5_readSort_23 ?_
    refine zc_vi2 eX5_readSort_25 lX5_126 tX9_expectNumber zs2 (by decide) (Nat.le_of_ble_eq_true rfl) (x_expNumber _ B L S.2.1 _ kb.2.2.1 (T.2.2.2.2 (by omega)) _ _) ?_
    rintro v1 g4 ⟨g5, F5, T5, p1, p2⟩ -
    refine z_ine eX5_readSort_28 rfl (fun c28 => ?_) (fun c28 => ?_)
    · have z9 : nuK B L (tkE B L q) 0 99 = 0 := by
        by_cases z : nuK B L (tkE B L q) 0 99 = 0
        · exact z
        · exact absurd (p2 z).1.symm c28
      obtain ⟨-, rfl⟩ := p1 z9
      have k2 := nuK_b.2.1 z9
      have kb5 := tk_b (B := B) kb.2.2.1
      have eF : sortF B L q D W ht = bnd (soF B L (nS D) W ht 3 0 0 (tkE B L (tkE B L q)) (up (up (up D (20 + nS D) (tkV B L (tkE B L q))) (40 + nS D) 0) (60 + nS D) 1)) (soR B L (nN D) W (nS D) ht) := by unfold sortF; rw [if_neg (by omega), if_pos z9]; rfl
      rw [eF]
      refine z_al0 eX5_readSort_33 ?_
      refine z_ga eX5_readSort_34 fX5_25 zs14 (t := 19) rfl ?_
      refine z_il2 eX5_readSort_37 ?_
      refine z_al1 eX5_readSort_38 ?_
      refine z_gi eX5_readSort_39 fX5_129 zs2 ?_
      rw [T5.2.2.2.1 k2.1]
      refine zs_iN eX5_readSort_42 zs19 (j := nS D) (by omega) (by omega) ?_
      have S6 := (S.fr F5).up (c := 19) (by decide) (by decide) (nS D) (tkV B L (tkE B L q))
      have e36 : zup g5 19 (nS D) (tkV B L (tkE B L q)) 2 3 = ((tkE B L (tkE B L q) : Nat) : Int) := by rw [zup_off (by decide)]; exact T5.2.2.2.2 (by omega)
      have I6 : hI (zup g5 19 (nS D) (tkV B L (tkE B L q))) (up D (20 + nS D) (tkV B L (tkE B L q))) W ht := hI_in I F5.1 (by omega)
      refine z_al0 eX5_readSort_43 ?_
      refine z_al1 eX5_readSort_44 ?_
      refine z_il2 eX5_readSort_45 ?_
      refine zc_vi2 eX5_readSort_46 lX5_141 tX5_readSortOptions zs14 (by decide) (Nat.le_of_ble_eq_true rfl) (x_sortOpt h0 _ B L _ q (nS D) _ W ht S6 e36 kb5.2.2.1 (by omega) I6 (by rw [up_ne (by omega)]; exact hn.2.2.1) (by omega) (by rw [zup_at, up_at]) (by rw [up_at]; exact ⟨k2.2.1, k2.2.2⟩)) ?_
      rintro v2 g6 R2 -
      refine z_ine eX5_readSort_49 rfl (fun c49 => ?_) (fun c49 => ?_)
      · generalize soF B L (nS D) W ht 3 0 0 (tkE B L (tkE B L q)) (up (up (up D (20 + nS D) (tkV B L (tkE B L q))) (40 + nS D) 0) (60 + nS D) 1) = R at R2 ⊢
        obtain ⟨t, rfl⟩ : ∃ t, R = .inr t := by
          rcases R with e | t
          · exact absurd R2.1.symm c49
          · exact ⟨t, rfl⟩
        obtain ⟨-, r2, r3, r4, r5, r6, r7, r8, r9⟩ := R2
        have d0 : t.2.1 0 = D 0 := by rw [r8, up_ne (by omega)]
        have enN : nN t.2.1 = nN D := by unfold nN; rw [d0]
        have e14 : g6 14 0 = (nN D : Int) := by rw [r6.2.2.1.1, d0]; exact hn.1
        have eW : ∀ k : Nat, k < nN D → g6 15 k = W k := fun k hk => r6.2.2.2.2.1 k (by omega)
        show zRW _ _ _ _ _ _ _ _ (zqi (fun v h' => xRd h0 B L q (bnd (rowF B L (nN D) W (80 + 8 * nS D) ht 9 0 0 t.2.1 t.1) (fun u => .inr (u.1, up u.2.1 1 (u.2.1 1 + 1), W, ht))) v h'))
        refine z_al0 eX5_readSort_54 ?_
        refine z_al1 eX5_readSort_55 ?_
        refine z_al0 eX5_readSort_56 ?_
        refine z_ga eX5_readSort_57 fX5_34 zs14 (t := 22) rfl ?_
        refine z_al0 eX5_readSort_60 ?_
        refine z_ga eX5_readSort_61 fX5_37 zs14 (t := 23) rfl ?_
        refine z_il2 eX5_readSort_64 ?_
        refine z_ki eX5_readSort_65 ?_
        refine z_imulN eX5_readSort_67 (by omega) (by omega) ?_
        rw [show ((nS D : Nat) : Int) * 8 = ((8 * nS D : Nat) : Int) by omega]
        refine zc_vi4 eX5_readSort_68 lX5_144 tX5_readRow zs14 (by decide) (Nat.le_of_ble_eq_true rfl) (x_row h0 g6 B L (nN D) 22 23 (8 * nS D) (80 + 8 * nS D) q 160 t.2.1 W ht hn.2.1 (Or.inl ⟨rfl, rfl, rfl⟩) zs22 zs23 (by omega) e14 eW t.1 r5 r4 r3 (by omega)) ?_
        rintro v3 g7 R3 -
        refine z_ine eX5_readSort_71 rfl (fun c71 => ?_) (fun c71 => ?_)
        · generalize rowF B L (nN D) W (80 + 8 * nS D) ht 9 0 0 t.2.1 t.1 = R at R3 ⊢
          obtain ⟨u, rfl⟩ : ∃ u, R = .inr u := by
            rcases R with e | t
            · exact absurd R3.1.symm c71
            · exact ⟨t, rfl⟩
          obtain ⟨-, y2, y3, y4, y5, y6, y7, y8, y9, y10⟩ := R3
          have e7 : g7 14 7 = (nS D : Int) := by rw [y6 14 (by decide) (by decide) (by decide), r6.2.2.1.2.2.2, r9]
          refine z_al0 eX5_readSort_76 ?_
          refine z_dup eX5_readSort_77 zn2 ?_
          refine z_gi eX5_readSort_78 fX5_51 zs14 ?_
          rw [e7]
          refine z_ki eX5_readSort_81 ?_
          refine z_iaddN eX5_readSort_82 (by omega) (by omega) ?_
          refine z_pi eX5_readSort_83 pX5_51 zs14 ?_
          refine z_ki eX5_readSort_86 ?_
          refine ze_z eX5_readSort_87 rfl (by first | exact Or.inl rfl | exact Or.inr rfl) ?_
          refine ⟨rfl, y2, y3, by show _ = (u.1 : Int); rw [zup_off (by decide)]; exact y4, y5.up (c := 14) (by decide) (by decide) _ _, ?_⟩
          exact hI_so r6 r7 r9 (by omega) y6 y7 (by rw [enN]; exact y8) (fun k hk => y9 k (by omega)) y10 rfl
        · refine z_ki eX5_readSort_74 ?_
          refine ze_z eX5_readSort_75 rfl (by first | exact Or.inl rfl | exact Or.inr rfl) ?_
          generalize rowF B L (nN D) W (80 + 8 * nS D) ht 9 0 0 t.2.1 t.1 = R at R3 ⊢
          rcases R with e | t
          · exact ⟨rfl, R3.2⟩
          · exact absurd (R3.1.trans c71) (by decide)
      · refine z_ki eX5_readSort_52 ?_
        refine ze_z eX5_readSort_53 rfl (by first | exact Or.inl rfl | exact Or.inr rfl) ?_
        generalize soF B L (nS D) W ht 3 0 0 (tkE B L (tkE B L q)) (up (up (up D (20 + nS D) (tkV B L (tkE B L q))) (40 + nS D) 0) (60 + nS D) 1) = R at R2 ⊢
        rcases R with e | t
        · exact ⟨rfl, R2.2⟩
        · exact absurd (R2.1.trans c49) (by decide)
    · have z9 : ¬ nuK B L (tkE B L q) 0 99 = 0 := fun z => by have := (p1 z).1; omega
      obtain ⟨-, rfl⟩ := p2 z9
      refine z_ki eX5_readSort_31 ?_
      refine ze_z eX5_readSort_32 rfl (by first | exact Or.inl rfl | exact Or.inr rfl) ?_
      have hd := I.1
      unfold dN at hd
      have eN : sortF B L q D W ht = .inl (nuK B L (tkE B L q) 0 99, tkA B L (tkE B L q)) := by unfold sortF; rw [if_neg (by omega), if_neg z9]
      rw [eN]
      exact ⟨rfl, (S.fr F5).bad _ _⟩
  · refine z_al1 eX5_readSort_9 ?_
    refine z_ki eX5_readSort_10 ?_
    refine zc_vi1 eX5_readSort_12 lX5_103 tX9_refuse zs2 (by decide) (Nat.le_of_ble_eq_true rfl) (x_ref T _) ?_
    rintro _ _ ⟨rfl, rfl⟩ -
    refine ze_z eX5_readSort_15 rfl (by first | exact Or.inl rfl | exact Or.inr rfl) ?_
    have eN : sortF B L q D W ht = .inl (6, tkA B L q) := by unfold sortF; rw [if_pos (by omega)]
    rw [eN, fK_1 (by omega)]
    exact ⟨rfl, S.bad _ _⟩
