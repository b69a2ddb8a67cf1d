-- act: the reference's run (written by wip/tools/specE6.py)
theorem soV_01 (D W : Nat → Int) (w ng : Int) : soV D W w ng = 0 ∨ soV D W w ng = 1 := by
  unfold soV
  (repeat' split) <;> first | exact Or.inl rfl | exact Or.inr rfl
theorem r_isSoS {h g : zHp} {S : aSt} (Hm : mS h S g) (s : Nat) (hs : s < 40) (hng : h 127 s = 0 ∨ h 127 s = 1) : zCi mX12_isSo 8 [zA 117, zI s] g (fun v h' => soS h s S = v ∧ mS h S h') := by
  obtain ⟨⟨hb, hst⟩, m122, ⟨m1, m2, m3, m4, m5⟩, m6, m7⟩ := id Hm
  have g127 : g 127 = h 127 := m6 127 (by decide) (by decide) (by decide) (by decide)
  have g123 : g 123 = h 123 := m6 123 (by decide) (by decide) (by decide) (by decide)
  have g134 : g 134 = h 134 := m6 134 (by decide) (by decide) (by decide) (by decide)
  refine zCi_wk (r_isSo g S.D m122 hb hst s hs (by rw [g127]; exact hng)) (fun v h' q => ?_)
  obtain ⟨q1, -, q3, q4⟩ := q
  rw [g123, g134, g127] at q1
  refine ⟨q1, ⟨hb, hst⟩, (q3 122 (by decide) (by decide) (by decide)).trans m122, ⟨(q4 28 (by decide)).trans m1, (q4 29 (by decide)).trans m2, (q4 30 (by decide)).trans m3, (q4 31 (by decide)).trans m4, (q4 32 (by decide)).trans m5⟩, fun a a1 a2 a3 a4 => (q3 a a1 a3 a4).trans (m6 a a1 a2 a3 a4), fun i i1 i2 => (q4 i i1).trans (m7 i i1 i2)⟩
/-- one field of the reference's counters is written -/
theorem mS_up {h g : zHp} {S T : aSt} (Hm : mS h S g) {i : Nat} {v : Int} (hi : 28 ≤ i ∧ i ≤ 32) (hD : T.D = S.D) (h28 : (if i = 28 then v else S.dn) = T.dn) (h29 : (if i = 29 then v else S.cut) = T.cut) (h30 : (if i = 30 then v else S.ch) = T.ch) (h31 : (if i = 31 then v else S.co) = T.co) (h32 : (if i = 32 then v else S.pu) = T.pu) : mS h T (zup g 117 i v) := by
  obtain ⟨hbs, m122, ⟨m1, m2, m3, m4, m5⟩, m6, m7⟩ := Hm
  have e : ∀ j : Nat, zup g 117 i v 117 j = if i = j then v else g 117 j := fun j => by
    unfold zup
    by_cases q : i = j
    · rw [if_pos q, if_pos ⟨rfl, q.symm⟩]
    · rw [if_neg q, if_neg (fun z => q z.2.symm)]
  refine ⟨by rw [hD]; exact hbs, by rw [hD, zup_off (by decide)]; exact m122, ⟨?_, ?_, ?_, ?_, ?_⟩, fun a a1 a2 a3 a4 => by rw [zup_off a1]; exact m6 a a1 a2 a3 a4, fun j j1 j2 => by rw [zup_ne (by omega)]; exact m7 j j1 j2⟩
  · rw [e, m1]; exact h28
  · rw [e, m2]; exact h29
  · rw [e, m3]; exact h30
  · rw [e, m4]; exact h31
  · rw [e, m5]; exact h32
theorem r_rp_l (h : zHp) (sp : Int) (hsp : h 117 33 = sp) (hs01 : sp = 0 ∨ sp = 1) (s s' : Nat) (hs : s < 40) (hst : stO h s) (hen : h 129 s = (s' : Int)) (kb : Nat) (body : aSt → aSt) (hbG : ∀ S, aG S → aG (body S)) (hbody : 5 ≤ h 126 s → ∀ (g : zHp) (S : aSt), mS h S g → aG S → zCv mX12_doAll kb [zA 117, zI ((s : Int) + 1), zI s'] g (fun h' => mS h (body S) h')) (n : Nat) (hn : h 127 s = (n : Int)) (hn9 : n ≤ 9) (h5 : h 126 s = 5) : ∀ (r j : Nat) (g : zHp) (S : aSt), j + r = n → mS h S g → aG S → zRW mX12_doOne (kb + 9) (0, 0) 102 [zA 117, zI s, zI j] [] 143 g (zqv (fun h' => mS h (rpF body r S) h')) := by
  intro r
  induction r using Nat.strongRecOn with
  | ind r ih =>
    intro j g S hj Hm G
    obtain ⟨-, m122, ⟨m1, m2, m3, m4, m5⟩, m6, m7⟩ := id Hm
    have g126 : g 126 = h 126 := m6 126 (by decide) (by decide) (by decide) (by decide)
    have g127 : g 127 = h 127 := m6 127 (by decide) (by decide) (by decide) (by decide)
    have g129 : g 129 = h 129 := m6 129 (by decide) (by decide) (by decide) (by decide)
    refine z_il2 eX12_doOne_102 ?_
    refine z_al0 eX12_doOne_103 ?_
    refine z_ga eX12_doOne_104 fX12_50 zs117 (t := 127) rfl ?_
    refine z_il1 eX12_doOne_107 ?_
    refine zr_iN eX12_doOne_108 zs127 (j := s) (by omega) (by omega) ?_
    rw [g127, hn]
    refine z_cge eX12_doOne_109 rfl (fun c109 => ?_) (fun c109 => ?_)
    · refine z_goto eX12_doOne_138 rfl ?_
      refine ze_v eX12_doOne_218 rfl ?_
      have e : r = 0 := by omega
      subst e
      exact Hm
    · refine z_al0 eX12_doOne_112 ?_
      refine z_gi eX12_doOne_113 fX12_517 zs117 ?_
      rw [m2]
      refine z_ine eX12_doOne_116 rfl (fun c116 => ?_) (fun c116 => ?_)
      · refine z_goto eX12_doOne_138 rfl ?_
        refine ze_v eX12_doOne_218 rfl ?_
        obtain ⟨r, rfl⟩ : ∃ m, r = m + 1 := ⟨r - 1, by omega⟩
        rw [rpF, if_neg c116]
        exact Hm
      · refine z_al0 eX12_doOne_119 ?_
        refine z_il1 eX12_doOne_120 ?_
        refine z_ki eX12_doOne_121 ?_
        refine z_iaddN eX12_doOne_122 (by omega) (by omega) ?_
        refine z_al0 eX12_doOne_123 ?_
        refine z_ga eX12_doOne_124 fX12_56 zs117 (t := 129) rfl ?_
        refine z_il1 eX12_doOne_127 ?_
        refine zr_iN eX12_doOne_128 zs129 (j := s) (by omega) (by omega) ?_
        rw [g129, hen]
        refine zc_vv2 eX12_doOne_129 lX12_532 tX12_doAll zs117 (by omega) (Nat.le_of_ble_eq_true rfl) (hbody (by omega) g S Hm G) ?_
        rintro g2 Hm2
        refine z_incN2 eX12_doOne_132 zn0 (by omega) (by omega) ?_
        refine z_goto eX12_doOne_135 rfl ?_
        obtain ⟨r, rfl⟩ : ∃ m, r = m + 1 := ⟨r - 1, by omega⟩
        rw [rpF, if_pos c116]
        exact ih r (by omega) (j + 1) g2 _ (by omega) Hm2 (hbG S G)
theorem r_ut_l (h : zHp) (sp : Int) (hsp : h 117 33 = sp) (hs01 : sp = 0 ∨ sp = 1) (s s' : Nat) (hs : s < 40) (hst : stO h s) (hen : h 129 s = (s' : Int)) (kb : Nat) (body : aSt → aSt) (hbG : ∀ S, aG S → aG (body S)) (hbody : 5 ≤ h 126 s → ∀ (g : zHp) (S : aSt), mS h S g → aG S → zCv mX12_doAll kb [zA 117, zI ((s : Int) + 1), zI s'] g (fun h' => mS h (body S) h')) (h5 : h 126 s = 7) (hng : h 127 s = 0 ∨ h 127 s = 1) : ∀ (r j : Nat) (g : zHp) (S : aSt), j + r = 20 → mS h S g → aG S → zRW mX12_doOne (kb + 9) (0, 0) 178 [zA 117, zI s, zI j] [] 143 g (zqv (fun h' => mS h (utF (soS h s) body r S) h')) := by
  intro r
  induction r using Nat.strongRecOn with
  | ind r ih =>
    intro j g S hj Hm G
    obtain ⟨-, m122, ⟨m1, m2, m3, m4, m5⟩, m6, m7⟩ := id Hm
    have g126 : g 126 = h 126 := m6 126 (by decide) (by decide) (by decide) (by decide)
    have g127 : g 127 = h 127 := m6 127 (by decide) (by decide) (by decide) (by decide)
    have g129 : g 129 = h 129 := m6 129 (by decide) (by decide) (by decide) (by decide)
    refine z_il2 eX12_doOne_178 ?_
    refine z_ki eX12_doOne_179 ?_
    refine z_cge eX12_doOne_181 rfl (fun c181 => ?_) (fun c181 => ?_)
    · refine ze_v eX12_doOne_218 rfl ?_
      have e : r = 0 := by omega
      subst e
      exact Hm
    · refine z_al0 eX12_doOne_184 ?_
      refine z_gi eX12_doOne_185 fX12_517 zs117 ?_
      rw [m2]
      refine z_ine eX12_doOne_188 rfl (fun c188 => ?_) (fun c188 => ?_)
      · refine ze_v eX12_doOne_218 rfl ?_
        obtain ⟨r, rfl⟩ : ∃ m, r = m + 1 := ⟨r - 1, by omega⟩
        rw [utF, if_neg (fun z => c188 z.1)]
        exact Hm
      · refine z_al0 eX12_doOne_191 ?_
        refine z_il1 eX12_doOne_192 ?_
        refine zc_vi1 eX12_doOne_193 lX12_535 tX12_isSo zs117 (by omega) (Nat.le_of_ble_eq_true rfl) (r_isSoS Hm s hs hng) ?_
        rintro _ g2 ⟨rfl, Hm2⟩ -
        refine z_ine eX12_doOne_196 rfl (fun c196 => ?_) (fun c196 => ?_)
        · refine ze_v eX12_doOne_218 rfl ?_
          obtain ⟨r, rfl⟩ : ∃ m, r = m + 1 := ⟨r - 1, by omega⟩
          rw [utF, if_neg (fun z => c196 z.2)]
          exact Hm2
        · refine z_al0 eX12_doOne_199 ?_
          refine z_il1 eX12_doOne_200 ?_
          refine z_ki eX12_doOne_201 ?_
          refine z_iaddN eX12_doOne_202 (by omega) (by omega) ?_
          refine z_al0 eX12_doOne_203 ?_
          refine z_ga eX12_doOne_204 fX12_56 zs117 (t := 129) rfl ?_
          refine z_il1 eX12_doOne_207 ?_
          refine zr_iN eX12_doOne_208 zs129 (j := s) (by omega) (by omega) ?_
          rw [show g2 129 = h 129 from Hm2.2.2.2.1 129 (by decide) (by decide) (by decide) (by decide), hen]
          refine zc_vv2 eX12_doOne_209 lX12_532 tX12_doAll zs117 (by omega) (Nat.le_of_ble_eq_true rfl) (hbody (by omega) g2 S Hm2 G) ?_
          rintro g3 Hm3
          refine z_incN2 eX12_doOne_212 zn0 (by omega) (by omega) ?_
          refine z_goto eX12_doOne_215 rfl ?_
          obtain ⟨r, rfl⟩ : ∃ m, r = m + 1 := ⟨r - 1, by omega⟩
          rw [utF, if_pos ⟨c188, c196⟩]
          exact ih r (by omega) (j + 1) g3 _ (by omega) Hm3 (hbG S G)
theorem r_doOne (h : zHp) (sp : Int) (hsp : h 117 33 = sp) (hs01 : sp = 0 ∨ sp = 1) (s s' : Nat) (hs : s < 40) (hst : stO h s) (hen : h 129 s = (s' : Int)) (kb : Nat) (body : aSt → aSt) (hbG : ∀ S, aG S → aG (body S)) (hbody : 5 ≤ h 126 s → ∀ (g : zHp) (S : aSt), mS h S g → aG S → zCv mX12_doAll kb [zA 117, zI ((s : Int) + 1), zI s'] g (fun h' => mS h (body S) h')) (g : zHp) (S : aSt) (Hm : mS h S g) (G : aG S) : zCv mX12_doOne (kb + 9) [zA 117, zI s] g (fun h' => mS h (ex1 h sp body s S) h') := by
  refine z_enter [zA 117, zI s, zU] (by decide +kernel) (Nat.le_of_ble_eq_true rfl) rfl (fun hra hrg => ?_)
  obtain ⟨-, m122, ⟨m1, m2, m3, m4, m5⟩, m6, m7⟩ := id Hm
  have g126 : g 126 = h 126 := m6 126 (by decide) (by decide) (by decide) (by decide)
  have g127 : g 127 = h 127 := m6 127 (by decide) (by decide) (by decide) (by decide)
  have g129 : g 129 = h 129 := m6 129 (by decide) (by decide) (by decide) (by decide)
  have G1 := G.2.1
  have G5 := G.2.2.2.2.2
  refine z_al0 eX12_doOne_0 ?_
  refine z_gi eX12_doOne_1 fX12_523 zs117 ?_
  rw [m1]
  refine z_ki eX12_doOne_4 ?_
  refine z_cne eX12_doOne_7 rfl (fun c7 => ?_) (fun c7 => ?_)
  · refine z_al0 eX12_doOne_16 ?_
    refine z_dup eX12_doOne_17 zn2 ?_
    refine z_gi eX12_doOne_18 fX12_523 zs117 ?_
    rw [m1]
    refine z_ki eX12_doOne_21 ?_
    refine z_iaddN eX12_doOne_22 (by omega) (by omega) ?_
    refine z_pi eX12_doOne_23 pX12_523 zs117 ?_
    have hdn : ¬ S.dn = 200 := c7
    have Hi : mS h (inc1 S) (zup g 117 28 (S.dn + 1)) := mS_up Hm (by omega) rfl rfl rfl rfl rfl rfl
    have Gi := inc1_G G hdn
    have i126 : zup g 117 28 (S.dn + 1) 126 = h 126 := (zup_off (by decide)).trans g126
    have i127 : zup g 117 28 (S.dn + 1) 127 = h 127 := (zup_off (by decide)).trans g127
    have i129 : zup g 117 28 (S.dn + 1) 129 = h 129 := (zup_off (by decide)).trans g129
    unfold ex1
    rw [if_neg hdn]
    unfold stO at hst
    refine z_al0 eX12_doOne_26 ?_
    refine z_ga eX12_doOne_27 fX12_47 zs117 (t := 126) rfl ?_
    refine z_il1 eX12_doOne_30 ?_
    refine zr_iN eX12_doOne_31 zs126 (j := s) (by omega) (by omega) ?_
    rw [i126]
    refine z_ki eX12_doOne_32 ?_
    refine z_cge eX12_doOne_33 rfl (fun c33 => ?_) (fun c33 => ?_)
    · refine z_al0 eX12_doOne_44 ?_
      refine z_ga eX12_doOne_45 fX12_47 zs117 (t := 126) rfl ?_
      refine z_il1 eX12_doOne_48 ?_
      refine zr_iN eX12_doOne_49 zs126 (j := s) (by omega) (by omega) ?_
      rw [i126]
      refine z_ki eX12_doOne_50 ?_
      refine z_cge eX12_doOne_51 rfl (fun c51 => ?_) (fun c51 => ?_)
      · refine z_al0 eX12_doOne_62 ?_
        refine z_ga eX12_doOne_63 fX12_47 zs117 (t := 126) rfl ?_
        refine z_il1 eX12_doOne_66 ?_
        refine zr_iN eX12_doOne_67 zs126 (j := s) (by omega) (by omega) ?_
        rw [i126]
        refine z_ki eX12_doOne_68 ?_
        refine z_cne eX12_doOne_69 rfl (fun c69 => ?_) (fun c69 => ?_)
        · refine z_al0 eX12_doOne_90 ?_
          refine z_ga eX12_doOne_91 fX12_47 zs117 (t := 126) rfl ?_
          refine z_il1 eX12_doOne_94 ?_
          refine zr_iN eX12_doOne_95 zs126 (j := s) (by omega) (by omega) ?_
          rw [i126]
          refine z_ki eX12_doOne_96 ?_
          refine z_cne eX12_doOne_97 rfl (fun c97 => ?_) (fun c97 => ?_)
          · refine z_al0 eX12_doOne_141 ?_
            refine z_ga eX12_doOne_142 fX12_47 zs117 (t := 126) rfl ?_
            refine z_il1 eX12_doOne_145 ?_
            refine zr_iN eX12_doOne_146 zs126 (j := s) (by omega) (by omega) ?_
            rw [i126]
            refine z_ki eX12_doOne_147 ?_
            refine z_cne eX12_doOne_149 rfl (fun c149 => ?_) (fun c149 => ?_)
            · refine z_ki eX12_doOne_176 ?_
              refine z_is2 eX12_doOne_177 zn0 ?_
              unfold ex2
              rw [if_neg (by omega), if_neg (by omega), if_neg (by omega), if_neg (by omega), if_neg (by omega)]
              exact r_ut_l h sp hsp hs01 s s' hs (by unfold stO; exact hst) hen kb body hbG hbody (by omega) (by omega) 20 0 _ (inc1 S) (Nat.zero_add _) Hi Gi
            · refine z_al0 eX12_doOne_152 ?_
              refine z_il1 eX12_doOne_153 ?_
              refine zc_vi1 eX12_doOne_154 lX12_535 tX12_isSo zs117 (by omega) (Nat.le_of_ble_eq_true rfl) (r_isSoS Hi s hs (by omega)) ?_
              rintro _ g2 ⟨rfl, Hm2⟩ -
              have so1 : soS h s (inc1 S) = 0 ∨ soS h s (inc1 S) = 1 := soV_01 _ _ _ _
              refine z_ieq eX12_doOne_157 rfl (fun c157 => ?_) (fun c157 => ?_)
              · refine ze_v eX12_doOne_218 rfl ?_
                unfold ex2
                rw [if_neg (by omega), if_neg (by omega), if_neg (by omega), if_neg (by omega), if_pos (by omega)]
                rw [if_neg (by omega)]
                exact Hm2
              · refine z_al0 eX12_doOne_160 ?_
                refine z_il1 eX12_doOne_161 ?_
                refine z_ki eX12_doOne_162 ?_
                refine z_iaddN eX12_doOne_163 (by omega) (by omega) ?_
                refine z_al0 eX12_doOne_164 ?_
                refine z_ga eX12_doOne_165 fX12_56 zs117 (t := 129) rfl ?_
                refine z_il1 eX12_doOne_168 ?_
                refine zr_iN eX12_doOne_169 zs129 (j := s) (by omega) (by omega) ?_
                rw [show g2 129 = h 129 from Hm2.2.2.2.1 129 (by decide) (by decide) (by decide) (by decide), hen]
                refine zc_vv2 eX12_doOne_170 lX12_532 tX12_doAll zs117 (by omega) (Nat.le_of_ble_eq_true rfl) (hbody (by omega) g2 (inc1 S) Hm2 Gi) ?_
                rintro g3 Hm3
                refine z_goto eX12_doOne_173 rfl ?_
                refine ze_v eX12_doOne_218 rfl ?_
                unfold ex2
                rw [if_neg (by omega), if_neg (by omega), if_neg (by omega), if_neg (by omega), if_pos (by omega)]
                rw [if_pos (by omega)]
                exact Hm3
          · obtain ⟨n, hn⟩ := Int.eq_ofNat_of_zero_le (show 0 ≤ h 127 s by omega)
            refine z_ki eX12_doOne_100 ?_
            refine z_is2 eX12_doOne_101 zn0 ?_
            unfold ex2
            rw [if_neg (by omega), if_neg (by omega), if_neg (by omega), if_pos (by omega), show (h 127 s).toNat = n by omega]
            exact r_rp_l h sp hsp hs01 s s' hs (by unfold stO; exact hst) hen kb body hbG hbody n hn (by omega) (by omega) n 0 _ (inc1 S) (Nat.zero_add _) Hi Gi
        · refine z_al0 eX12_doOne_72 ?_
          refine z_dup eX12_doOne_73 zn2 ?_
          refine z_gi eX12_doOne_74 fX12_505 zs117 ?_
          rw [zup_ne (by decide), m5]
          refine z_al0 eX12_doOne_77 ?_
          refine z_ga eX12_doOne_78 fX12_50 zs117 (t := 127) rfl ?_
          refine z_il1 eX12_doOne_81 ?_
          refine zr_iN eX12_doOne_82 zs127 (j := s) (by omega) (by omega) ?_
          rw [i127]
          refine z_iaddN eX12_doOne_83 (by omega) (by omega) ?_
          refine z_pi eX12_doOne_84 pX12_505 zs117 ?_
          refine z_goto eX12_doOne_87 rfl ?_
          refine ze_v eX12_doOne_218 rfl ?_
          unfold ex2
          rw [if_neg (by omega), if_neg (by omega), if_pos (by omega)]
          exact mS_up Hi (by omega) rfl rfl rfl rfl rfl rfl
      · refine z_al0 eX12_doOne_54 ?_
        refine z_il1 eX12_doOne_55 ?_
        refine zc_vv1 eX12_doOne_56 lX12_529 tX12_changeVoters zs117 (by omega) (Nat.le_of_ble_eq_true rfl) (r_chVot h sp hsp hs01 s hs (h 127 s).toNat (h 128 s).toNat (by omega) (by omega) (by omega) (by omega) (by omega) _ (inc1 S) Hi (aG_cG G hdn (by omega))) ?_
        rintro g2 Hm2
        refine z_goto eX12_doOne_59 rfl ?_
        refine ze_v eX12_doOne_218 rfl ?_
        unfold ex2
        rw [if_neg (by omega), if_pos (by omega)]
        rw [show (((h 127 s).toNat : Nat) : Int) = h 127 s by omega] at Hm2
        exact Hm2
    · refine z_al0 eX12_doOne_36 ?_
      refine z_il1 eX12_doOne_37 ?_
      refine zc_vv1 eX12_doOne_38 lX12_526 tX12_changeName zs117 (by omega) (Nat.le_of_ble_eq_true rfl) (r_chName h sp hsp hs01 s hs (by omega) _ (inc1 S) Hi (aG_cG G hdn (by omega))) ?_
      rintro g2 Hm2
      refine z_goto eX12_doOne_41 rfl ?_
      refine ze_v eX12_doOne_218 rfl ?_
      unfold ex2
      rw [if_pos (by omega)]
      exact Hm2
  · refine z_al0 eX12_doOne_10 ?_
    refine z_ki eX12_doOne_11 ?_
    refine z_pi eX12_doOne_12 pX12_517 zs117 ?_
    refine ze_v eX12_doOne_15 rfl ?_
    unfold ex1
    rw [if_pos c7]
    exact mS_up Hm (by omega) rfl rfl rfl rfl rfl rfl
