-- act: the reference's changes of names and voters (written by wip/tools/specE4.py)
theorem pyM_o {g : zHp} {sp c : Int} {a : Nat} (h : ¬ a = 117) : pyM g sp c a = g a := by unfold pyM; rw [zup_off h, zup_off h, zup_off h]
theorem r_chName (h : zHp) (sp : Int) (hsp : h 117 33 = sp) (hs01 : sp = 0 ∨ sp = 1) (s : Nat) (hs : s < 40) (hk : 0 ≤ h 126 s ∧ h 126 s ≤ 1) (g : zHp) (S : aSt) (Hm : mS h S g) (G : cG 1 S) : zCv mX12_changeName 1 [zA 117, zI s] g (fun h' => mS h (cN sp (h 126 s) (fdN S.D (h 123) (h 134 s)) 1 S) h') := by
  refine z_enter [zA 117, zI s, zU] (by decide +kernel) (Nat.le_of_ble_eq_true rfl) rfl (fun hra hrg => ?_)
  obtain ⟨⟨hb, hst⟩, m122, ⟨m1, m2, m3, m4, m5⟩, m6, m7⟩ := id Hm
  have g126 : g 126 = h 126 := m6 126 (by decide) (by decide) (by decide) (by decide)
  have g127 : g 127 = h 127 := m6 127 (by decide) (by decide) (by decide) (by decide)
  have g128 : g 128 = h 128 := m6 128 (by decide) (by decide) (by decide) (by decide)
  have g123 : g 123 = h 123 := m6 123 (by decide) (by decide) (by decide) (by decide)
  have g134 : g 134 = h 134 := m6 134 (by decide) (by decide) (by decide) (by decide)
  have hN := nN_eq hb
  have hS := nS_eq hb
  have hN8 := nN_le hb
  have hS20 := nS_le hb
  have hb2 := hb.2.2.1
  have fb := fdN_b (D := S.D) (W := h 123) (w := h 134 s)
  refine z_al0 eX12_changeName_0 ?_
  refine z_al0 eX12_changeName_1 ?_
  refine z_ga eX12_changeName_2 fX12_71 zs117 (t := 134) rfl ?_
  refine z_il1 eX12_changeName_5 ?_
  refine zr_lN eX12_changeName_6 zs134 (j := s) (by omega) (by omega) ?_
  refine zc_vi1 eX12_changeName_7 lX12_501 tX12_named zs117 (by decide) (Nat.le_of_ble_eq_true rfl) (r_named _ _ m122 hb _) ?_
  rw [g123, g134]
  generalize fdN S.D (h 123) (h 134 s) = x at fb ⊢
  rintro y _ ⟨e, rfl⟩ -
  subst e
  refine z_is2 eX12_changeName_10 zn0 ?_
  refine z_il2 eX12_changeName_11 ?_
  refine z_ilt eX12_changeName_12 rfl (fun c12 => ?_) (fun c12 => ?_)
  · refine ze_v eX12_changeName_49 rfl ?_
    rw [cN_no (fun ok => ?_)]
    · exact Hm
    · have := ok.1.1
      omega
  · obtain ⟨w, rfl⟩ := Int.eq_ofNat_of_zero_le (show 0 ≤ x by omega)
    have ht : thD (h 126 s) (w : Int) S.D := ⟨by omega, by rw [if_pos (by omega)]; omega⟩
    have ecs : csD (h 126 s) (w : Int).toNat S.D = S.D (3 + w) := by rw [Int.toNat_natCast]; exact if_pos (by omega)
    have hcb := th_csD hb ht
    rw [ecs] at hcb
    refine z_al0 eX12_changeName_15 ?_
    refine z_ga eX12_changeName_16 fX12_35 zs117 (t := 122) rfl ?_
    refine z_ki eX12_changeName_19 ?_
    refine zr_iN eX12_changeName_20 zs122 (j := 2) (by omega) (by omega) ?_
    rw [m122]
    refine z_il2 eX12_changeName_21 ?_
    refine z_ishr eX12_changeName_22 ?_
    refine z_ki eX12_changeName_23 ?_
    refine z_iand eX12_changeName_24 ?_
    rw [zbit (by omega) (by omega) (by omega) (by omega), Int.toNat_natCast]
    refine z_al0 eX12_changeName_25 ?_
    refine z_ga eX12_changeName_26 fX12_47 zs117 (t := 126) rfl ?_
    refine z_il1 eX12_changeName_29 ?_
    refine zr_iN eX12_changeName_30 zs126 (j := s) (by omega) (by omega) ?_
    rw [g126]
    refine z_cne eX12_changeName_31 rfl (fun c31 => ?_) (fun c31 => ?_)
    · refine ze_v eX12_changeName_49 rfl ?_
      rw [cN_no (fun ok => ?_)]
      · exact Hm
      · have z := ok.2.1
        unfold cnD at z
        rw [Int.toNat_natCast] at z
        omega
    · refine z_al0 eX12_changeName_34 ?_
      refine z_al0 eX12_changeName_35 ?_
      refine z_ga eX12_changeName_36 fX12_35 zs117 (t := 122) rfl ?_
      refine z_ki eX12_changeName_39 ?_
      refine z_il2 eX12_changeName_40 ?_
      refine z_iaddN eX12_changeName_41 (by omega) (by omega) ?_
      refine zr_iN eX12_changeName_42 zs122 (j := 3 + w) (by omega) (by omega) ?_
      rw [m122]
      refine zc_vi1 eX12_changeName_43 lX12_514 tX12_pays zs117 (by decide) (Nat.le_of_ble_eq_true rfl) (r_paysS Hm hsp hs01 G (by omega) _ (by omega)) ?_
      rintro y f ⟨u0, u1⟩ -
      refine z_ine eX12_changeName_46 rfl (fun c46 => ?_) (fun c46 => ?_)
      · have hpy : ¬ (sp = 1 ∧ S.pu < S.D (3 + w)) := fun z => by have := (u0 z).1; omega
        obtain ⟨-, rfl⟩ := u1 hpy
        have ok : okC sp (h 126 s) (w : Int) S := ⟨ht, Or.inl ⟨by omega, by rw [Int.toNat_natCast]; omega⟩, fun e => by rw [ecs]; omega⟩
        refine z_al0 eX12_changeName_50 ?_
        refine z_ga eX12_changeName_51 fX12_35 zs117 (t := 122) rfl ?_
        refine z_ki eX12_changeName_54 ?_
        refine z_dup2 eX12_changeName_55 zn0 zn2 ?_
        refine zr_iN eX12_changeName_56 zs122 (j := 2) (by omega) (by omega) ?_
        rw [pyM_o (by decide), m122]
        refine z_ki eX12_changeName_57 ?_
        refine z_il2 eX12_changeName_58 ?_
        refine z_ishl eX12_changeName_59 ?_
        rw [kb_shl1 (by omega), stN hb]
        refine z_ixor eX12_changeName_60 ?_
        rw [kb_xor (by omega) (by have := Nat.pow_lt_pow_right (by omega : 1 < 2) (show w < 8 by omega); omega)]
        refine zs_iN eX12_changeName_61 zs122 (j := 2) (by omega) (by omega) ?_
        refine ze_v eX12_changeName_62 rfl ?_
        rw [cN_s ok]
        refine mS_c1 Hm ok ?_ (fun a ha => ?_)
        · rw [zup_upD, pyM_o (by decide), m122]
          unfold uD
          rw [if_pos (by omega), Int.toNat_natCast]
        · rw [zup_off ha, ecs]
      · refine ze_v eX12_changeName_49 rfl ?_
        have e : g = f := by
          by_cases z : sp = 1 ∧ S.pu < S.D (3 + w)
          · exact (u0 z).2
          · have := (u1 z).1; omega
        subst e
        rw [cN_no (fun ok => ?_)]
        · exact Hm
        · have z := ok.2.2
          rw [ecs] at z
          have := (u1 (by omega)).1
          omega
theorem r_chVot_l (h : zHp) (sp : Int) (hsp : h 117 33 = sp) (hs01 : sp = 0 ∨ sp = 1) (s : Nat) (hs : s < 40) (w n : Nat) (hw : w < 20) (hn : n ≤ 99) (hsn : h 128 s = (n : Int)) (k fl : Int) (hfl : (k = 2 ∧ fl = 1) ∨ (k = 3 ∧ fl = 0)) : ∀ (r j : Nat) (g : zHp) (S : aSt), j + r = n → mS h S g → cG r S → thD k (w : Int) S.D → zRW mX12_changeVoters 2 (0, 0) 35 [zA 117, zI s, zI w, zI fl, zI j] [] 143 g (zqv (fun h' => mS h (cN sp k (w : Int) r S) h')) := by
  intro r
  induction r using Nat.strongRecOn with
  | ind r ih =>
    intro j g S hj Hm G ht
    obtain ⟨⟨hb, hst⟩, m122, ⟨m1, m2, m3, m4, m5⟩, m6, m7⟩ := id Hm
    have g126 : g 126 = h 126 := m6 126 (by decide) (by decide) (by decide) (by decide)
    have g127 : g 127 = h 127 := m6 127 (by decide) (by decide) (by decide) (by decide)
    have g128 : g 128 = h 128 := m6 128 (by decide) (by decide) (by decide) (by decide)
    have g123 : g 123 = h 123 := m6 123 (by decide) (by decide) (by decide) (by decide)
    have g134 : g 134 = h 134 := m6 134 (by decide) (by decide) (by decide) (by decide)
    have hN := nN_eq hb
    have hS := nS_eq hb
    have hN8 := nN_le hb
    have hS20 := nS_le hb
    have hb2 := hb.2.2.1
    have ecs : csD k (w : Int).toNat S.D = S.D (60 + w) := by rw [Int.toNat_natCast]; exact if_neg (by omega)
    have hcb := th_csD hb ht
    rw [ecs] at hcb
    have ht2 := ht.2
    rw [if_neg (by omega)] at ht2
    have hb5 := hb.2.2.2.2.1 w (by omega)
    refine z_il4 eX12_changeVoters_35 ?_
    refine z_al0 eX12_changeVoters_37 ?_
    refine z_ga eX12_changeVoters_38 fX12_53 zs117 (t := 128) rfl ?_
    refine z_il1 eX12_changeVoters_41 ?_
    refine zr_iN eX12_changeVoters_42 zs128 (j := s) (by omega) (by omega) ?_
    rw [g128, hsn]
    refine z_cge eX12_changeVoters_43 rfl (fun c43 => ?_) (fun c43 => ?_)
    · refine ze_v eX12_changeVoters_132 rfl ?_
      have e : r = 0 := by omega
      subst e
      exact Hm
    · refine z_al0 eX12_changeVoters_46 ?_
      refine z_ga eX12_changeVoters_47 fX12_35 zs117 (t := 122) rfl ?_
      refine z_il3 eX12_changeVoters_50 ?_
      refine z_ieq eX12_changeVoters_51 rfl (fun c51 => ?_) (fun c51 => ?_)
      · refine z_ki eX12_changeVoters_59 ?_
        refine z_il2 eX12_changeVoters_61 ?_
        refine z_iaddN eX12_changeVoters_62 (by omega) (by omega) ?_
        refine zr_iN eX12_changeVoters_63 zs122 (j := 20 + w) (by omega) (by omega) ?_
        rw [m122]
        refine z_ieq eX12_changeVoters_64 rfl (fun c64 => ?_) (fun c64 => ?_)
        · refine ze_v eX12_changeVoters_83 rfl ?_
          rw [cN_no (fun ok => ?_)]
          · exact Hm
          · have z := ok.2.1
            unfold cnD at z
            rw [Int.toNat_natCast] at z
            omega
        · refine z_al0 eX12_changeVoters_67 ?_
          refine z_al0 eX12_changeVoters_68 ?_
          refine z_ga eX12_changeVoters_69 fX12_35 zs117 (t := 122) rfl ?_
          refine z_ki eX12_changeVoters_72 ?_
          refine z_il2 eX12_changeVoters_74 ?_
          refine z_iaddN eX12_changeVoters_75 (by omega) (by omega) ?_
          refine zr_iN eX12_changeVoters_76 zs122 (j := 60 + w) (by omega) (by omega) ?_
          rw [m122]
          refine zc_vi1 eX12_changeVoters_77 lX12_514 tX12_pays zs117 (by decide) (Nat.le_of_ble_eq_true rfl) (r_paysS Hm hsp hs01 G (by omega) _ (by omega)) ?_
          rintro y f ⟨u0, u1⟩ -
          refine z_ine eX12_changeVoters_80 rfl (fun c80 => ?_) (fun c80 => ?_)
          · obtain ⟨r, rfl⟩ : ∃ m, r = m + 1 := ⟨r - 1, by omega⟩
            have hpy : ¬ (sp = 1 ∧ S.pu < S.D (60 + w)) := fun z => by have := (u0 z).1; omega
            obtain ⟨-, rfl⟩ := u1 hpy
            have ok : okC sp k (w : Int) S := ⟨ht, by unfold cnD; rw [Int.toNat_natCast]; omega, fun e => by rw [ecs]; omega⟩
            refine z_al0 eX12_changeVoters_84 ?_
            refine z_ga eX12_changeVoters_85 fX12_35 zs117 (t := 122) rfl ?_
            refine z_ki eX12_changeVoters_88 ?_
            refine z_il2 eX12_changeVoters_90 ?_
            refine z_iaddN eX12_changeVoters_91 (by omega) (by omega) ?_
            refine z_dup2 eX12_changeVoters_92 zn0 zn2 ?_
            refine zr_iN eX12_changeVoters_93 zs122 (j := 20 + w) (by omega) (by omega) ?_
            rw [pyM_o (by decide), m122]
            refine z_il3 eX12_changeVoters_94 ?_
            refine z_ieq eX12_changeVoters_95 rfl (fun c95 => ?_) (fun c95 => ?_)
            · refine z_ki eX12_changeVoters_102 ?_
              refine z_iaddN eX12_changeVoters_103 (by omega) (by omega) ?_
              refine zs_iN eX12_changeVoters_104 zs122 (j := 20 + w) (by omega) (by omega) ?_
              refine z_al0 eX12_changeVoters_105 ?_
              refine z_ga eX12_changeVoters_106 fX12_35 zs117 (t := 122) rfl ?_
              refine z_ki eX12_changeVoters_109 ?_
              refine z_il2 eX12_changeVoters_111 ?_
              refine z_iaddN eX12_changeVoters_112 (by omega) (by omega) ?_
              refine z_dup2 eX12_changeVoters_113 zn0 zn2 ?_
              refine zr_iN eX12_changeVoters_114 zs122 (j := 40 + w) (by omega) (by omega) ?_
              rw [zup_ne (by omega), pyM_o (by decide), m122]
              refine z_il3 eX12_changeVoters_115 ?_
              refine z_ieq eX12_changeVoters_116 rfl (fun c116 => ?_) (fun c116 => ?_)
              · refine z_ki eX12_changeVoters_123 ?_
                refine z_iaddN eX12_changeVoters_124 (by omega) (by omega) ?_
                refine zs_iN eX12_changeVoters_125 zs122 (j := 40 + w) (by omega) (by omega) ?_
                refine z_incN4 eX12_changeVoters_126 zn0 (by omega) (by omega) ?_
                refine z_goto eX12_changeVoters_129 rfl ?_
                rw [cN_s ok]
                refine ih r (by omega) (j + 1) _ (c1 sp k w S) (by omega) (mS_c1 Hm ok ?_ (fun a ha => ?_)) (c1_G hb ok (by rw [show ((r : Nat) : Int) + 1 = ((r + 1 : Nat) : Int) by omega]; exact G)) ?_
                · rw [zup_upD, zup_upD, pyM_o (by decide), m122]
                  unfold uD
                  rw [if_neg (by omega), if_neg (by omega), Int.toNat_natCast]
                · rw [zup_off ha, zup_off ha, ecs]
                · exact (th_c1 (by rw [Int.toNat_natCast]; exact hw)).mpr ht
              · exact absurd c51 c116
            · exact absurd c51 c95
          · refine ze_v eX12_changeVoters_83 rfl ?_
            have e : g = f := by
              by_cases z : sp = 1 ∧ S.pu < S.D (60 + w)
              · exact (u0 z).2
              · have := (u1 z).1; omega
            subst e
            rw [cN_no (fun ok => ?_)]
            · exact Hm
            · have z := ok.2.2
              rw [ecs] at z
              have := (u1 (by omega)).1
              omega
      · refine z_ki eX12_changeVoters_54 ?_
        refine z_goto eX12_changeVoters_56 rfl ?_
        refine z_il2 eX12_changeVoters_61 ?_
        refine z_iaddN eX12_changeVoters_62 (by omega) (by omega) ?_
        refine zr_iN eX12_changeVoters_63 zs122 (j := 40 + w) (by omega) (by omega) ?_
        rw [m122]
        refine z_ieq eX12_changeVoters_64 rfl (fun c64 => ?_) (fun c64 => ?_)
        · refine ze_v eX12_changeVoters_83 rfl ?_
          rw [cN_no (fun ok => ?_)]
          · exact Hm
          · have z := ok.2.1
            unfold cnD at z
            rw [Int.toNat_natCast] at z
            omega
        · refine z_al0 eX12_changeVoters_67 ?_
          refine z_al0 eX12_changeVoters_68 ?_
          refine z_ga eX12_changeVoters_69 fX12_35 zs117 (t := 122) rfl ?_
          refine z_ki eX12_changeVoters_72 ?_
          refine z_il2 eX12_changeVoters_74 ?_
          refine z_iaddN eX12_changeVoters_75 (by omega) (by omega) ?_
          refine zr_iN eX12_changeVoters_76 zs122 (j := 60 + w) (by omega) (by omega) ?_
          rw [m122]
          refine zc_vi1 eX12_changeVoters_77 lX12_514 tX12_pays zs117 (by decide) (Nat.le_of_ble_eq_true rfl) (r_paysS Hm hsp hs01 G (by omega) _ (by omega)) ?_
          rintro y f ⟨u0, u1⟩ -
          refine z_ine eX12_changeVoters_80 rfl (fun c80 => ?_) (fun c80 => ?_)
          · obtain ⟨r, rfl⟩ : ∃ m, r = m + 1 := ⟨r - 1, by omega⟩
            have hpy : ¬ (sp = 1 ∧ S.pu < S.D (60 + w)) := fun z => by have := (u0 z).1; omega
            obtain ⟨-, rfl⟩ := u1 hpy
            have ok : okC sp k (w : Int) S := ⟨ht, by unfold cnD; rw [Int.toNat_natCast]; omega, fun e => by rw [ecs]; omega⟩
            refine z_al0 eX12_changeVoters_84 ?_
            refine z_ga eX12_changeVoters_85 fX12_35 zs117 (t := 122) rfl ?_
            refine z_ki eX12_changeVoters_88 ?_
            refine z_il2 eX12_changeVoters_90 ?_
            refine z_iaddN eX12_changeVoters_91 (by omega) (by omega) ?_
            refine z_dup2 eX12_changeVoters_92 zn0 zn2 ?_
            refine zr_iN eX12_changeVoters_93 zs122 (j := 20 + w) (by omega) (by omega) ?_
            rw [pyM_o (by decide), m122]
            refine z_il3 eX12_changeVoters_94 ?_
            refine z_ieq eX12_changeVoters_95 rfl (fun c95 => ?_) (fun c95 => ?_)
            · exact absurd c95 c51
            · refine z_ki eX12_changeVoters_98 ?_
              refine z_goto eX12_changeVoters_99 rfl ?_
              refine z_iaddN eX12_changeVoters_103 (by omega) (by omega) ?_
              refine zs_iN eX12_changeVoters_104 zs122 (j := 20 + w) (by omega) (by omega) ?_
              refine z_al0 eX12_changeVoters_105 ?_
              refine z_ga eX12_changeVoters_106 fX12_35 zs117 (t := 122) rfl ?_
              refine z_ki eX12_changeVoters_109 ?_
              refine z_il2 eX12_changeVoters_111 ?_
              refine z_iaddN eX12_changeVoters_112 (by omega) (by omega) ?_
              refine z_dup2 eX12_changeVoters_113 zn0 zn2 ?_
              refine zr_iN eX12_changeVoters_114 zs122 (j := 40 + w) (by omega) (by omega) ?_
              rw [zup_ne (by omega), pyM_o (by decide), m122]
              refine z_il3 eX12_changeVoters_115 ?_
              refine z_ieq eX12_changeVoters_116 rfl (fun c116 => ?_) (fun c116 => ?_)
              · exact absurd c116 c51
              · refine z_ki eX12_changeVoters_119 ?_
                refine z_goto eX12_changeVoters_120 rfl ?_
                refine z_iaddN eX12_changeVoters_124 (by omega) (by omega) ?_
                refine zs_iN eX12_changeVoters_125 zs122 (j := 40 + w) (by omega) (by omega) ?_
                refine z_incN4 eX12_changeVoters_126 zn0 (by omega) (by omega) ?_
                refine z_goto eX12_changeVoters_129 rfl ?_
                rw [cN_s ok]
                refine ih r (by omega) (j + 1) _ (c1 sp k w S) (by omega) (mS_c1 Hm ok ?_ (fun a ha => ?_)) (c1_G hb ok (by rw [show ((r : Nat) : Int) + 1 = ((r + 1 : Nat) : Int) by omega]; exact G)) ?_
                · rw [zup_upD, zup_upD, pyM_o (by decide), m122]
                  unfold uD
                  rw [if_neg (by omega), if_pos (by omega), Int.toNat_natCast]
                · rw [zup_off ha, zup_off ha, ecs]
                · exact (th_c1 (by rw [Int.toNat_natCast]; exact hw)).mpr ht
          · refine ze_v eX12_changeVoters_83 rfl ?_
            have e : g = f := by
              by_cases z : sp = 1 ∧ S.pu < S.D (60 + w)
              · exact (u0 z).2
              · have := (u1 z).1; omega
            subst e
            rw [cN_no (fun ok => ?_)]
            · exact Hm
            · have z := ok.2.2
              rw [ecs] at z
              have := (u1 (by omega)).1
              omega
theorem r_chVot (h : zHp) (sp : Int) (hsp : h 117 33 = sp) (hs01 : sp = 0 ∨ sp = 1) (s : Nat) (hs : s < 40) (w n : Nat) (hw : w < 20) (hn : n ≤ 99) (hsw : h 127 s = (w : Int)) (hsn : h 128 s = (n : Int)) (hk : h 126 s = 2 ∨ h 126 s = 3) (g : zHp) (S : aSt) (Hm : mS h S g) (G : cG n S) : zCv mX12_changeVoters 2 [zA 117, zI s] g (fun h' => mS h (cN sp (h 126 s) (w : Int) n S) h') := by
  refine z_enter [zA 117, zI s, zU, zU, zU] (by decide +kernel) (Nat.le_of_ble_eq_true rfl) rfl (fun hra hrg => ?_)
  obtain ⟨⟨hb, hst⟩, m122, ⟨m1, m2, m3, m4, m5⟩, m6, m7⟩ := id Hm
  have g126 : g 126 = h 126 := m6 126 (by decide) (by decide) (by decide) (by decide)
  have g127 : g 127 = h 127 := m6 127 (by decide) (by decide) (by decide) (by decide)
  have g128 : g 128 = h 128 := m6 128 (by decide) (by decide) (by decide) (by decide)
  have g123 : g 123 = h 123 := m6 123 (by decide) (by decide) (by decide) (by decide)
  have g134 : g 134 = h 134 := m6 134 (by decide) (by decide) (by decide) (by decide)
  have hN := nN_eq hb
  have hS := nS_eq hb
  have hN8 := nN_le hb
  have hS20 := nS_le hb
  have hb2 := hb.2.2.1
  refine z_al0 eX12_changeVoters_0 ?_
  refine z_ga eX12_changeVoters_1 fX12_50 zs117 (t := 127) rfl ?_
  refine z_il1 eX12_changeVoters_4 ?_
  refine zr_iN eX12_changeVoters_5 zs127 (j := s) (by omega) (by omega) ?_
  rw [g127, hsw]
  refine z_is2 eX12_changeVoters_6 zn0 ?_
  refine z_al0 eX12_changeVoters_7 ?_
  refine z_il2 eX12_changeVoters_8 ?_
  refine zc_vi1 eX12_changeVoters_9 lX12_281 tX12_isSort zs117 (by decide) (Nat.le_of_ble_eq_true rfl) (r_isSort _ _ m122 hb _) ?_
  rintro _ _ ⟨rfl, rfl⟩ -
  refine z_ine eX12_changeVoters_12 rfl (fun c12 => ?_) (fun c12 => ?_)
  · have z12 := iteT c12
    refine z_al0 eX12_changeVoters_16 ?_
    refine z_ga eX12_changeVoters_17 fX12_47 zs117 (t := 126) rfl ?_
    refine z_il1 eX12_changeVoters_20 ?_
    refine zr_iN eX12_changeVoters_21 zs126 (j := s) (by omega) (by omega) ?_
    rw [g126]
    refine z_ki eX12_changeVoters_22 ?_
    refine z_cne eX12_changeVoters_23 rfl (fun c23 => ?_) (fun c23 => ?_)
    · refine z_ki eX12_changeVoters_30 ?_
      refine z_is3 eX12_changeVoters_31 zn0 ?_
      refine z_ki eX12_changeVoters_32 ?_
      refine z_is4 eX12_changeVoters_33 zn0 ?_
      exact r_chVot_l h sp hsp hs01 s hs w n hw hn hsn (h 126 s) _ (by omega) n 0 g S (Nat.zero_add _) Hm G ⟨by omega, by rw [if_neg (by omega)]; omega⟩
    · refine z_ki eX12_changeVoters_26 ?_
      refine z_goto eX12_changeVoters_27 rfl ?_
      refine z_is3 eX12_changeVoters_31 zn0 ?_
      refine z_ki eX12_changeVoters_32 ?_
      refine z_is4 eX12_changeVoters_33 zn0 ?_
      exact r_chVot_l h sp hsp hs01 s hs w n hw hn hsn (h 126 s) _ (by omega) n 0 g S (Nat.zero_add _) Hm G ⟨by omega, by rw [if_neg (by omega)]; omega⟩
  · have z12 := iteF c12
    refine ze_v eX12_changeVoters_15 rfl ?_
    rw [cN_no (fun ok => ?_)]
    · exact Hm
    · apply z12
      have := ok.1
      unfold thD at this
      rw [if_neg (by omega)] at this
      exact this
