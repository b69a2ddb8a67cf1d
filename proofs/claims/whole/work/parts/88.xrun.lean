-- act: the class's run (written by wip/tools/specE9.py)
theorem xS_cut {h g : zHp} {W : Nat → Int} {S : aSt} (H : xS h W S g) : xS h W (cut1 S) (zup g 65 8 1) := by
  obtain ⟨H1, x4, x5, x6, x7, x8, xo⟩ := H
  exact ⟨HR_fr H1 (fun b hb => zup_off (by omega)), by rw [zup_ne (by decide)]; exact x4, by rw [zup_ne (by decide)]; exact x5, by rw [zup_ne (by decide)]; exact x6, by rw [zup_ne (by decide)]; exact x7, by rw [zup_at]; rfl, fun a a1 a2 a3 a4 a5 a6 => (zup_off a5).trans (xo a a1 a2 a3 a4 a5 a6)⟩
theorem x_it (h : zHp) (sp : Int) (s n e : Nat) (hst : stO h s) (hn : stN2 h s n e) (hsp : h 32 2 = sp) (hs01 : sp = 0 ∨ sp = 1) (Q : Int → zHp → Prop) (g : zHp) (S : aSt) (Hx : xS h (h 123) S g) (G : aG S) (k : Int) (hk : 0 ≤ k ∧ k < 999999) (hN : (n : Int) < h 32 0) (k1 : ¬ S.dn = 200 → ∀ g', xS h (h 123) (bsS h sp s (inc1 S)) g' → g' 66 = bsR h s n (g 66) → zRW mX3_run 7 (0, 0) 31 [zA 65, zI (S.dn + 1), zI (bsN h s n e (inc1 S)), zI (k + 1)] [] 143 g' (zqi Q)) (k2 : S.dn = 200 → ∀ g', xS h (h 123) (cut1 S) g' → Q S.dn g') : zRW mX3_run 7 (0, 0) 31 [zA 65, zI S.dn, zI n, zI k] [] 143 g (zqi Q) := by
  obtain ⟨n1, n2, n3, -⟩ := id hn
  have g33 : g 33 = h 33 := xS_o Hx (by omega)
  have g38 : g 38 = h 38 := xS_o Hx (by omega)
  have g32 : g 32 = h 32 := xS_o Hx (by omega)
  have Gd := G.2.1
  unfold stO at hst
  refine z_il3 eX3_run_31 ?_
  refine z_ki eX3_run_32 ?_
  refine z_cge eX3_run_34 rfl (fun c34 => ?_) (fun c34 => ?_)
  · exfalso; omega
  · refine z_il2 eX3_run_37 ?_
    refine z_ilt eX3_run_38 rfl (fun c38 => ?_) (fun c38 => ?_)
    · exfalso; omega
    · refine z_il2 eX3_run_41 ?_
      refine z_al0 eX3_run_42 ?_
      refine z_ga eX3_run_43 fX3_17 zs65 (t := 32) rfl ?_
      refine z_gi eX3_run_46 fX3_47 zs32 ?_
      rw [g32]
      refine z_cge eX3_run_49 rfl (fun c49 => ?_) (fun c49 => ?_)
      · exfalso; omega
      · refine z_al0 eX3_run_52 ?_
        refine z_ga eX3_run_53 fX3_17 zs65 (t := 32) rfl ?_
        refine z_ga eX3_run_56 fX3_50 zs32 (t := 33) rfl ?_
        refine z_il2 eX3_run_59 ?_
        refine zr_iN eX3_run_60 zs33 (j := n) (by omega) (by omega) ?_
        rw [g33, n3]
        refine z_ki eX3_run_61 ?_
        refine z_ceq eX3_run_63 rfl (fun c63 => ?_) (fun c63 => ?_)
        · exfalso; omega
        · refine z_il1 eX3_run_66 ?_
          refine z_ki eX3_run_67 ?_
          refine z_clt eX3_run_70 rfl (fun c70 => ?_) (fun c70 => ?_)
          · refine z_incN1 eX3_run_81 zn2 (by omega) (by omega) ?_
            refine z_al0 eX3_run_84 ?_
            refine z_ga eX3_run_85 fX3_17 zs65 (t := 32) rfl ?_
            refine z_ga eX3_run_88 fX3_50 zs32 (t := 33) rfl ?_
            refine z_il2 eX3_run_91 ?_
            refine zr_iN eX3_run_92 zs33 (j := n) (by omega) (by omega) ?_
            rw [g33, n3]
            refine z_ki eX3_run_93 ?_
            refine z_cne eX3_run_95 rfl (fun c95 => ?_) (fun c95 => ?_)
            · refine z_al0 eX3_run_115 ?_
              refine z_il2 eX3_run_116 ?_
              refine zc_vi1 eX3_run_117 lX3_60 tX3_behindStep zs65 (by decide) (Nat.le_of_ble_eq_true rfl) (x_bs sp h s n e (by unfold stO; exact hst) hn hsp hs01 g S Hx G (by omega)) ?_
              rintro _ g2 ⟨rfl, Hx2, h66⟩ -
              refine z_is2 eX3_run_120 zn0 ?_
              refine z_incN3 eX3_run_121 zn0 (by omega) (by omega) ?_
              refine z_goto eX3_run_124 rfl ?_
              exact k1 (by omega) g2 Hx2 h66
            · exfalso; omega
          · refine z_al0 eX3_run_73 ?_
            refine z_ki eX3_run_74 ?_
            refine z_pz eX3_run_75 pX3_43 zs65 (by omega) ?_
            refine z_goto eX3_run_78 rfl ?_
            refine z_il1 eX3_run_127 ?_
            refine ze_i eX3_run_128 rfl ?_
            exact k2 (by omega) _ (xS_cut Hx)
theorem x_ie (h : zHp) (sp : Int) (s n e : Nat) (hst : stO h s) (hn : stN2 h s n e) (hsp : h 32 2 = sp) (hs01 : sp = 0 ∨ sp = 1) (Q : Int → zHp → Prop) (g : zHp) (S : aSt) (Hx : xS h (h 123) S g) (G : aG S) (k : Int) (hk : 0 ≤ k ∧ k < 999999) (h5 : 5 ≤ h 126 s) (e8 : h 33 e = 8) (em : h 38 e = (n : Int)) (hN : (e : Int) < h 32 0) (k1 : ∀ g', xS h (h 123) S g' → g' 66 = upD (g 66) n (zw (g 66 n + 1)) → (agP h s (g 66 n) S → zRW mX3_run 7 (0, 0) 31 [zA 65, zI S.dn, zI ((n : Int) + 1), zI (k + 1)] [] 143 g' (zqi Q)) ∧ (¬ agP h s (g 66 n) S → zRW mX3_run 7 (0, 0) 31 [zA 65, zI S.dn, zI ((e : Int) + 1), zI (k + 1)] [] 143 g' (zqi Q))) : zRW mX3_run 7 (0, 0) 31 [zA 65, zI S.dn, zI e, zI k] [] 143 g (zqi Q) := by
  obtain ⟨n1, n2, n3, -⟩ := id hn
  have g33 : g 33 = h 33 := xS_o Hx (by omega)
  have g38 : g 38 = h 38 := xS_o Hx (by omega)
  have g32 : g 32 = h 32 := xS_o Hx (by omega)
  have Gd := G.2.1
  refine z_il3 eX3_run_31 ?_
  refine z_ki eX3_run_32 ?_
  refine z_cge eX3_run_34 rfl (fun c34 => ?_) (fun c34 => ?_)
  · exfalso; omega
  · refine z_il2 eX3_run_37 ?_
    refine z_ilt eX3_run_38 rfl (fun c38 => ?_) (fun c38 => ?_)
    · exfalso; omega
    · refine z_il2 eX3_run_41 ?_
      refine z_al0 eX3_run_42 ?_
      refine z_ga eX3_run_43 fX3_17 zs65 (t := 32) rfl ?_
      refine z_gi eX3_run_46 fX3_47 zs32 ?_
      rw [g32]
      refine z_cge eX3_run_49 rfl (fun c49 => ?_) (fun c49 => ?_)
      · exfalso; omega
      · refine z_al0 eX3_run_52 ?_
        refine z_ga eX3_run_53 fX3_17 zs65 (t := 32) rfl ?_
        refine z_ga eX3_run_56 fX3_50 zs32 (t := 33) rfl ?_
        refine z_il2 eX3_run_59 ?_
        refine zr_iN eX3_run_60 zs33 (j := e) (by omega) (by omega) ?_
        rw [g33, e8]
        refine z_ki eX3_run_61 ?_
        refine z_ceq eX3_run_63 rfl (fun c63 => ?_) (fun c63 => ?_)
        · refine z_al0 eX3_run_84 ?_
          refine z_ga eX3_run_85 fX3_17 zs65 (t := 32) rfl ?_
          refine z_ga eX3_run_88 fX3_50 zs32 (t := 33) rfl ?_
          refine z_il2 eX3_run_91 ?_
          refine zr_iN eX3_run_92 zs33 (j := e) (by omega) (by omega) ?_
          rw [g33, e8]
          refine z_ki eX3_run_93 ?_
          refine z_cne eX3_run_95 rfl (fun c95 => ?_) (fun c95 => ?_)
          · exfalso; omega
          · refine z_al0 eX3_run_98 ?_
            refine z_il2 eX3_run_99 ?_
            refine z_al0 eX3_run_100 ?_
            refine z_ga eX3_run_101 fX3_17 zs65 (t := 32) rfl ?_
            refine z_ga eX3_run_104 fX3_53 zs32 (t := 38) rfl ?_
            refine z_il2 eX3_run_107 ?_
            refine zr_iN eX3_run_108 zs38 (j := e) (by omega) (by omega) ?_
            rw [g38, em]
            refine zc_vi2 eX3_run_109 lX3_56 tX3_behindEnd zs65 (by decide) (Nat.le_of_ble_eq_true rfl) (x_be h s n e hst hn h5 g S Hx) ?_
            rintro y g2 ⟨⟨u1, u2⟩, Hx2, h66⟩ -
            refine z_goto eX3_run_112 rfl ?_
            refine z_is2 eX3_run_120 zn0 ?_
            refine z_incN3 eX3_run_121 zn0 (by omega) (by omega) ?_
            refine z_goto eX3_run_124 rfl ?_
            by_cases z : agP h s (g 66 n) S
            · rw [← u1 z]
              exact (k1 g2 Hx2 h66).1 z
            · rw [← u2 z]
              exact (k1 g2 Hx2 h66).2 z
        · exfalso; omega
