-- game: both sides (written by wip/tools/specG2.py)
def rcB (S mn ot : Nat) : Nat → Bool := fun set => decide ((set ^^^ S) ^^^ ((set ^^^ S) &&& (mn ||| ot)) = 0)
theorem rcB_ok {S mn ot set : Nat} (H : rch S mn ot set) : rcB S mn ot set = true := by
  apply decide_eq_true
  apply Nat.eq_of_testBit_eq
  intro k
  rw [Nat.testBit_xor, Nat.testBit_and, Nat.testBit_xor, Nat.testBit_or, Nat.zero_testBit]
  cases q : (mn.testBit k || ot.testBit k) with
  | false => rw [H k q]; simp
  | true => simp
theorem rch_self (S mn ot : Nat) : rch S mn ot S := fun _ _ => rfl
theorem tbF_o {D : Nat → Int} {a : Int} {mn ot : Nat} {R : Nat → Bool} {l set : Nat} (h : l % 2 = 1) : stF (nN D) 1 mn (tbF D a mn ot R l) set (nN D) = tbF D a mn ot R (l + 1) set := by
  rw [tbF, if_pos h]; exact if_pos rfl
theorem tbF_a {D : Nat → Int} {a : Int} {mn ot : Nat} {R : Nat → Bool} {l set : Nat} (h : ¬ l % 2 = 1) : stF (nN D) 0 ot (tbF D a mn ot R l) set (nN D) = tbF D a mn ot R (l + 1) set := by
  rw [tbF, if_neg h]; exact if_neg (by decide)
theorem x_play_2 (h : zHp) (H : rHR h) (D : Nat → Int) (hD : h 122 = D) (S : Nat) (hDS : D 2 = (S : Int)) (a : Int) (mn ot : Nat) (hmn : mn < 256) (hot : ot < 256) (T : Nat) (hT3 : T ≤ 3) (fx al : Int) : ∀ (r t : Nat) (g : zHp), t + r = T → 1 ≤ t → zXf h g → (∀ s : Nat, s < 2 ^ nN D → g 61 s = bI (tbF D a mn ot (rcB S mn ot) (2 * t - 1) s)) → zRW mX6_play 4 (0, 0) 109 [zA 60, zI a, zI mn, zI ot, zI T, zI fx, zI al, zI t, zU] [] 143 g (zqi (fun v h' => (gmF D a mn ot (2 * T) S = true → (1 : Int) = v ∧ ∃ g', zXf h g' ∧ zup (zup g' 60 4 1) 60 5 (opn mn (gmF D a mn ot (2 * T - 1)) S (nN D)) = h') ∧ (¬ gmF D a mn ot (2 * T) S = true → (0 : Int) = v ∧ zXf h h'))) := by
  intro r
  induction r using Nat.strongRecOn with
  | ind r ih =>
    intro t g ht ht1 hg htb
    have Hg := H.xf hg
    have e122 : g 122 = D := (hg.2.1 122 (by omega)).trans hD
    obtain ⟨⟨hb, hst, e0, e1, e7, ek, es, eo, hp⟩, hru⟩ : hallR g 4 D (g 123) ∧ ruleR g 24 D := by rw [← e122]; exact Hg
    have hN := nN_eq hb
    have hS := nS_eq hb
    have hN8 := nN_le hb
    have hS20 := nS_le hb
    have hb2 := hb.2.2.1
    have hS2 : S < 2 ^ nN D := by omega
    have h256 := p2le hN8
    refine z_il7 eX6_play_109 ?_
    refine z_il4 eX6_play_111 ?_
    refine z_cge eX6_play_113 rfl (fun c113 => ?_) (fun c113 => ?_)
    · refine z_al0 eX6_play_134 ?_
      refine z_il2 eX6_play_135 ?_
      refine zc_vi1 eX6_play_136 lX6_53 tX6_open zs60 (by decide) (Nat.le_of_ble_eq_true rfl) (x_open g D hb e0 S hS2 (by rw [e1, hDS]) mn hmn (tbF D a mn ot (rcB S mn ot) (2 * t - 1)) htb) ?_
      rintro y g1 ho hy32
      refine ze_z eX6_play_139 rfl (by have hyy := ho; unfold opX at hyy; by_cases q : orF mn (tbF D a mn ot (rcB S mn ot) (2 * t - 1)) S (nN D) = true; exact Or.inr (hyy.1 q).1.symm; exact Or.inl (hyy.2 q).1.symm) ?_
      have e : t = T := by omega
      subst e
      have hR : ∀ set, set < 2 ^ nN D → rch S mn ot set → rcB S mn ot set = true := fun _ _ q => rcB_ok q
      have hgm : orF mn (tbF D a mn ot (rcB S mn ot) (2 * t - 1)) S (nN D) = gmF D a mn ot (2 * t) S := by
        rw [show 2 * t = 2 * t - 1 + 1 by omega, gmF, if_pos (by omega), show 2 * t - 1 + 1 - 1 = 2 * t - 1 by omega]
        exact orF_cg (tb_gm hR _ S hS2 (rch_self S mn ot)) _ (fun k hk hm => tb_gm hR _ _ (xor_p2_lt hS2 hk) (rch_mv (rch_self S mn ot) (Or.inl hm)))
      have hop : opn mn (tbF D a mn ot (rcB S mn ot) (2 * t - 1)) S (nN D) = opn mn (gmF D a mn ot (2 * t - 1)) S (nN D) := by
        unfold opn
        rw [tb_gm hR _ S hS2 (rch_self S mn ot), opF_cg (G' := gmF D a mn ot (2 * t - 1)) (nN D) 0 (fun j j1 j2 hm => tb_gm hR _ _ (xor_p2_lt hS2 (by omega)) (rch_mv (rch_self S mn ot) (Or.inl hm)))]
      unfold opX at ho
      rw [hgm, hop] at ho
      exact ⟨fun q => ⟨(ho.1 q).1, g, hg, (ho.1 q).2⟩, fun q => ⟨(ho.2 q).1, by rw [← (ho.2 q).2]; exact hg⟩⟩
    · refine z_al0 eX6_play_116 ?_
      refine z_il2 eX6_play_117 ?_
      refine z_ki eX6_play_118 ?_
      refine zc_vv2 eX6_play_119 lX6_49 tX6_stepBack zs60 (by decide) (Nat.le_of_ble_eq_true rfl) (x_sb g Hg D e122 mn hmn 1 (Or.inr rfl) (tbF D a mn ot (rcB S mn ot) (2 * t - 1)) htb) ?_
      rintro g1 ⟨f1, t1⟩
      have hg1 := hg.tr (zFr2_61 f1)
      have t1b : ∀ s : Nat, s < 2 ^ nN D → g1 61 s = bI (tbF D a mn ot (rcB S mn ot) (2 * t) s) := fun s hs => by
        rw [t1 s hs, tbF_o (by omega), show 2 * t - 1 + 1 = 2 * t by omega]
      refine z_al0 eX6_play_122 ?_
      refine z_il3 eX6_play_123 ?_
      refine z_ki eX6_play_124 ?_
      refine zc_vv2 eX6_play_125 lX6_49 tX6_stepBack zs60 (by decide) (Nat.le_of_ble_eq_true rfl) (x_sb g1 (H.xf hg1) D ((hg1.2.1 122 (by omega)).trans hD) ot hot 0 (Or.inl rfl) (tbF D a mn ot (rcB S mn ot) (2 * t)) t1b) ?_
      rintro g2 ⟨f2, t2⟩
      have hg2 := hg1.tr (zFr2_61 f2)
      refine z_incN7 eX6_play_128 zn0 (by omega) (by omega) ?_
      refine z_goto eX6_play_131 rfl ?_
      exact ih (r - 1) (by omega) (t + 1) g2 (by omega) (by omega) hg2 (fun s hs => by rw [t2 s hs, tbF_a (by omega), show 2 * (t + 1) - 1 = 2 * t + 1 by omega])
theorem x_play_1 (h : zHp) (H : rHR h) (D : Nat → Int) (hD : h 122 = D) (S : Nat) (hDS : D 2 = (S : Int)) (a : Int) (mn ot : Nat) (hmn : mn < 256) (hot : ot < 256) (T : Nat) (hT3 : T ≤ 3) (hT : 1 ≤ T) : ∀ (r set : Nat) (g : zHp), set + r = 2 ^ nN D → zXf h g → (∀ s : Nat, s < set → g 61 s = bI (tbF D a mn ot (rcB S mn ot) 0 s)) → zRW mX6_play 4 (0, 0) 19 [zA 60, zI a, zI mn, zI ot, zI T, zI (zxor ((mn ||| ot : Nat) : Int) (-1)), zI ((2 ^ nN D - 1 : Nat) : Int), zI set, zU] [] 143 g (zqi (fun v h' => (gmF D a mn ot (2 * T) S = true → (1 : Int) = v ∧ ∃ g', zXf h g' ∧ zup (zup g' 60 4 1) 60 5 (opn mn (gmF D a mn ot (2 * T - 1)) S (nN D)) = h') ∧ (¬ gmF D a mn ot (2 * T) S = true → (0 : Int) = v ∧ zXf h h'))) := by
  intro r
  induction r using Nat.strongRecOn with
  | ind r ih =>
    intro set g hs hg htb
    have Hg := H.xf hg
    have e122 : g 122 = D := (hg.2.1 122 (by omega)).trans hD
    obtain ⟨⟨hb, hst, e0, e1, e7, ek, es, eo, hp⟩, hru⟩ : hallR g 4 D (g 123) ∧ ruleR g 24 D := by rw [← e122]; exact Hg
    have hN := nN_eq hb
    have hS := nS_eq hb
    have hN8 := nN_le hb
    have hS20 := nS_le hb
    have hb2 := hb.2.2.1
    have hS2 : S < 2 ^ nN D := by omega
    have h256 := p2le hN8
    have hpp := Nat.two_pow_pos (nN D)
    refine z_il7 eX6_play_19 ?_
    refine z_il6 eX6_play_21 ?_
    refine z_cgt eX6_play_23 rfl (fun c23 => ?_) (fun c23 => ?_)
    · refine z_al0 eX6_play_100 ?_
      refine z_il3 eX6_play_101 ?_
      refine z_ki eX6_play_102 ?_
      refine zc_vv2 eX6_play_103 lX6_49 tX6_stepBack zs60 (by decide) (Nat.le_of_ble_eq_true rfl) (x_sb g Hg D e122 ot hot 0 (Or.inl rfl) (tbF D a mn ot (rcB S mn ot) 0) (fun s hs => htb s (by omega))) ?_
      rintro g1 ⟨f1, t1⟩
      have hg1 := hg.tr (zFr2_61 f1)
      refine z_ki eX6_play_106 ?_
      refine z_is7 eX6_play_107 zn0 ?_
      exact x_play_2 h H D hD S hDS a mn ot hmn hot T hT3 _ _ (T - 1) 1 g1 (by omega) (by omega) hg1 (fun s hs => by rw [t1 s hs, tbF_a (by omega)])
    · refine z_il7 eX6_play_26 ?_
      refine z_ki eX6_play_28 ?_
      refine z_cge eX6_play_31 rfl (fun c31 => ?_) (fun c31 => ?_)
      · exfalso; omega
      · have hxl := Nat.xor_lt_two_pow (show set < 2 ^ nN D by omega) hS2
        have hrc : rcB S mn ot set = decide ((set ^^^ S) ^^^ ((set ^^^ S) &&& (mn ||| ot)) = 0) := rfl
        have htb0 : tbF D a mn ot (rcB S mn ot) 0 set = (rcB S mn ot set && decide (winNow D set = a)) := rfl
        refine z_il7 eX6_play_34 ?_
        refine z_al0 eX6_play_36 ?_
        refine z_ga eX6_play_37 fX6_22 zs60 (t := 4) rfl ?_
        refine z_gi eX6_play_40 fX6_36 zs4 ?_
        refine z_ixor eX6_play_43 ?_
        refine z_il5 eX6_play_44 ?_
        refine z_iand eX6_play_46 ?_
        rw [e1, hDS, kb_xor (by omega) (by omega), kb_andn (by omega)]
        refine z_ine eX6_play_47 rfl (fun c47 => ?_) (fun c47 => ?_)
        · refine z_ki eX6_play_54 ?_
          refine z_is8 eX6_play_55 zn0 ?_
          refine z_al0 eX6_play_57 ?_
          refine z_ga eX6_play_58 fX6_11 zs60 (t := 61) rfl ?_
          refine z_il7 eX6_play_61 ?_
          refine z_il8 eX6_play_63 ?_
          refine z_ieq eX6_play_65 rfl (fun c65 => ?_) (fun c65 => ?_)
          · refine z_ki eX6_play_92 ?_
            refine zs_zN eX6_play_93 zs61 (j := set) (by omega) (by omega) (by first | exact Or.inl rfl | exact Or.inr rfl) ?_
            refine z_incN7 eX6_play_94 zn0 (by omega) (by omega) ?_
            refine z_goto eX6_play_97 rfl ?_
            refine z_fg8 ?_
            refine ih (r - 1) (by omega) (set + 1) _ (by omega) (hg.up (by omega) (by omega) rfl) (fun s hs2 => ?_)
            by_cases e : s = set
            · subst e
              rw [zup_at, htb0, hrc, decide_eq_false (fun z => c47 (by rw [z]; rfl)), Bool.false_and]; rfl
            · rw [zup_ne (by omega)]; exact htb s (by omega)
          · exact absurd rfl c65
        · refine z_ki eX6_play_50 ?_
          refine z_goto eX6_play_51 rfl ?_
          refine z_is8 eX6_play_55 zn0 ?_
          refine z_al0 eX6_play_57 ?_
          refine z_ga eX6_play_58 fX6_11 zs60 (t := 61) rfl ?_
          refine z_il7 eX6_play_61 ?_
          refine z_il8 eX6_play_63 ?_
          refine z_ieq eX6_play_65 rfl (fun c65 => ?_) (fun c65 => ?_)
          · exact absurd c65 (by decide)
          · refine z_al0 eX6_play_68 ?_
            refine z_ga eX6_play_69 fX6_26 zs60 (t := 50) rfl ?_
            refine z_il7 eX6_play_72 ?_
            refine z_al0 eX6_play_74 ?_
            refine z_ga eX6_play_75 fX6_22 zs60 (t := 4) rfl ?_
            refine z_ga eX6_play_78 fX6_39 zs4 (t := 9) rfl ?_
            refine zc_vi2 eX6_play_81 lX6_43 tX2_winnerOf zs50 (by decide) (Nat.le_of_ble_eq_true rfl) (x_winD Hg e122 set (by omega)) ?_
            rintro _ g2 ⟨rfl, hfr⟩ -
            have hg2 : zXf h g2 := hg.fr hfr (by decide) (fun _ => rfl)
            refine z_il1 eX6_play_84 ?_
            refine z_cne eX6_play_85 rfl (fun c85 => ?_) (fun c85 => ?_)
            · refine z_ki eX6_play_92 ?_
              refine zs_zN eX6_play_93 zs61 (j := set) (by omega) (by omega) (by first | exact Or.inl rfl | exact Or.inr rfl) ?_
              refine z_incN7 eX6_play_94 zn0 (by omega) (by omega) ?_
              refine z_goto eX6_play_97 rfl ?_
              refine z_fg8 ?_
              refine ih (r - 1) (by omega) (set + 1) _ (by omega) (hg2.up (by omega) (by omega) rfl) (fun s hs2 => ?_)
              by_cases e : s = set
              · subst e
                rw [zup_at, htb0, hrc, decide_eq_true (show _ = 0 by omega), Bool.true_and, decide_eq_false c85]; rfl
              · rw [zup_ne (by omega), hfr 61 (by decide)]; exact htb s (by omega)
            · refine z_ki eX6_play_88 ?_
              refine z_goto eX6_play_89 rfl ?_
              refine zs_zN eX6_play_93 zs61 (j := set) (by omega) (by omega) (by first | exact Or.inl rfl | exact Or.inr rfl) ?_
              refine z_incN7 eX6_play_94 zn0 (by omega) (by omega) ?_
              refine z_goto eX6_play_97 rfl ?_
              refine z_fg8 ?_
              refine ih (r - 1) (by omega) (set + 1) _ (by omega) (hg2.up (by omega) (by omega) rfl) (fun s hs2 => ?_)
              by_cases e : s = set
              · subst e
                rw [zup_at, htb0, hrc, decide_eq_true (show _ = 0 by omega), Bool.true_and, decide_eq_true c85]; rfl
              · rw [zup_ne (by omega), hfr 61 (by decide)]; exact htb s (by omega)
theorem x_play (h : zHp) (H : rHR h) (D : Nat → Int) (hD : h 122 = D) (S : Nat) (hDS : D 2 = (S : Int)) (a : Int) (mn ot : Nat) (hmn : mn < 256) (hot : ot < 256) (T : Nat) (hT3 : T ≤ 3) (hT : 1 ≤ T) : zCi mX6_play 4 [zA 60, zI a, zI mn, zI ot, zI T] h (fun v h' => (gmF D a mn ot (2 * T) S = true → (1 : Int) = v ∧ ∃ g', zXf h g' ∧ zup (zup g' 60 4 1) 60 5 (opn mn (gmF D a mn ot (2 * T - 1)) S (nN D)) = h') ∧ (¬ gmF D a mn ot (2 * T) S = true → (0 : Int) = v ∧ zXf h h')) := by
  refine z_enter [zA 60, zI a, zI mn, zI ot, zI T, zU, zU, zU, zU] (by decide +kernel) (Nat.le_of_ble_eq_true rfl) rfl (fun hra hrg => ?_)
  subst hD
  refine z_il2 eX6_play_0 ?_
  refine z_il3 eX6_play_1 ?_
  refine z_ior eX6_play_2 ?_
  rw [kb_or (by omega) (by omega)]
  refine z_ki eX6_play_3 ?_
  refine z_ixor eX6_play_4 ?_
  refine z_is5 eX6_play_5 zn0 ?_
  refine z_al0 eX6_play_7 ?_
  refine z_ga eX6_play_8 fX6_22 zs60 (t := 4) rfl ?_
  refine zc_vi0 eX6_play_11 lX6_30 tX5_allNames zs4 (by decide) (Nat.le_of_ble_eq_true rfl) (x_allNames _ H) ?_
  rintro _ _ ⟨rfl, rfl⟩ -
  refine z_is6 eX6_play_14 zn0 ?_
  refine z_ki eX6_play_16 ?_
  refine z_is7 eX6_play_17 zn0 ?_
  exact x_play_1 h H _ rfl S hDS a mn ot hmn hot T hT3 hT _ 0 h (Nat.zero_add _) zXf.rf (fun s hs => by omega)
theorem x_isSet (h : zHp) (H : rHR h) (x : Int) : zCi mX11_isSetOfNames 1 [zA 0, zI x] h (fun v h' => (if 0 ≤ x ∧ x < ((2 ^ nN (h 122) : Nat) : Int) then 1 else 0) = v ∧ h = h') := by
  refine z_enter [zA 0, zI x] (by decide +kernel) (Nat.le_of_ble_eq_true rfl) rfl (fun hra hrg => ?_)
  obtain ⟨⟨hb, hst, e0, e1, e7, ek, es, eo, hp⟩, hru⟩ := id H
  have hN := nN_eq hb
  have hS := nS_eq hb
  have hN8 := nN_le hb
  have hS20 := nS_le hb
  have hb2 := hb.2.2.1
  have hx32 : z32 x := hra (zI x) (by simp)
  refine z_il1 eX11_isSetOfNames_0 ?_
  refine z_al0 eX11_isSetOfNames_1 ?_
  refine z_ga eX11_isSetOfNames_2 fX11_25 zs0 (t := 4) rfl ?_
  refine zc_vi0 eX11_isSetOfNames_5 lX11_126 tX5_allNames zs4 (by decide) (Nat.le_of_ble_eq_true rfl) (x_allNames _ H) ?_
  rintro _ _ ⟨rfl, rfl⟩ -
  refine z_ki eX11_isSetOfNames_8 ?_
  refine z_ixor eX11_isSetOfNames_9 ?_
  refine z_iand eX11_isSetOfNames_10 ?_
  refine z_ine eX11_isSetOfNames_11 rfl (fun c11 => ?_) (fun c11 => ?_)
  · rw [kb_sub hx32 (by omega)] at c11
    refine z_ki eX11_isSetOfNames_18 ?_
    refine ze_z eX11_isSetOfNames_19 rfl (by first | exact Or.inl rfl | exact Or.inr rfl) ?_
    refine ⟨?_, rfl⟩
    first | (rw [if_pos (by omega)]; done) | (rw [if_neg (by omega)]; done)
  · rw [kb_sub hx32 (by omega)] at c11
    refine z_ki eX11_isSetOfNames_14 ?_
    refine z_goto eX11_isSetOfNames_15 rfl ?_
    refine ze_z eX11_isSetOfNames_19 rfl (by first | exact Or.inl rfl | exact Or.inr rfl) ?_
    refine ⟨?_, rfl⟩
    first | (rw [if_pos (by omega)]; done) | (rw [if_neg (by omega)]; done)
def gB (D : Nat → Int) (a m o t : Int) : Bool := gmF D a m.toNat o.toNat (2 * t.toNat) (D 2).toNat
def qGame (D : Nat → Int) (a m o t : Int) : Int × Int := if (0 ≤ a ∧ a < D 0) ∧ (0 ≤ m ∧ m < ((2 ^ nN D : Nat) : Int)) ∧ (0 ≤ o ∧ o < ((2 ^ nN D : Nat) : Int)) ∧ m.toNat &&& o.toNat = 0 then (if 1 ≤ t ∧ t ≤ 3 then (bI (gB D a m o t), 0) else (-1, 5)) else (-1, 2)
def gO (D : Nat → Int) (a m o t : Int) : Int := opn m.toNat (gmF D a m.toNat o.toNat (2 * t.toNat - 1)) (D 2).toNat (nN D)
theorem x_game (h : zHp) (H : rHR h) (a m o t : Int) : zCi mX11_game 5 [zA 0, zI a, zI m, zI o, zI t] h (fun v h' => pXL [4] ((qGame (h 122) a m o t).1 = 1) h (qGame (h 122) a m o t) (fun g => g 60 4 = 1 ∧ g 60 5 = gO (h 122) a m o t) v h') := by
  refine z_enter [zA 0, zI a, zI m, zI o, zI t] (by decide +kernel) (Nat.le_of_ble_eq_true rfl) rfl (fun hra hrg => ?_)
  obtain ⟨⟨hb, hst, e0, e1, e7, ek, es, eo, hp⟩, hru⟩ := id H
  have hN := nN_eq hb
  have hS := nS_eq hb
  have hN8 := nN_le hb
  have hS20 := nS_le hb
  have hb2 := hb.2.2.1
  have h256 := p2le hN8
  refine z_al0 eX11_game_0 ?_
  refine z_il1 eX11_game_1 ?_
  refine zc_vi1 eX11_game_2 lX11_224 tX11_isName zs0 (by decide) (Nat.le_of_ble_eq_true rfl) (x_isName _ H _) ?_
  rintro _ _ ⟨rfl, rfl⟩ -
  refine z_ieq eX11_game_5 rfl (fun c5 => ?_) (fun c5 => ?_)
  · have z5 := iteF c5
    refine z_al0 eX11_game_30 ?_
    refine z_ki eX11_game_31 ?_
    refine zc_vi1 eX11_game_32 lX11_153 tX11_fail zs0 (by decide) (Nat.le_of_ble_eq_true rfl) (x_fail _ _) ?_
    rintro _ _ ⟨rfl, rfl⟩ -
    refine ze_i eX11_game_35 rfl ?_
    have eq : qGame (h 122) a m o t = (-1, 2) := by unfold qGame; (repeat' split) <;> first | (exfalso; omega) | rfl
    exact pXL_no zXf.rf eq (by rw [eq]; decide)
  · have z5 := iteT c5
    refine z_al0 eX11_game_8 ?_
    refine z_il2 eX11_game_9 ?_
    refine zc_vi1 eX11_game_10 lX11_335 tX11_isSetOfNames zs0 (by decide) (Nat.le_of_ble_eq_true rfl) (x_isSet _ H _) ?_
    rintro _ _ ⟨rfl, rfl⟩ -
    refine z_ieq eX11_game_13 rfl (fun c13 => ?_) (fun c13 => ?_)
    · have z13 := iteF c13
      refine z_al0 eX11_game_30 ?_
      refine z_ki eX11_game_31 ?_
      refine zc_vi1 eX11_game_32 lX11_153 tX11_fail zs0 (by decide) (Nat.le_of_ble_eq_true rfl) (x_fail _ _) ?_
      rintro _ _ ⟨rfl, rfl⟩ -
      refine ze_i eX11_game_35 rfl ?_
      have eq : qGame (h 122) a m o t = (-1, 2) := by unfold qGame; (repeat' split) <;> first | (exfalso; omega) | rfl
      exact pXL_no zXf.rf eq (by rw [eq]; decide)
    · have z13 := iteT c13
      refine z_al0 eX11_game_16 ?_
      refine z_il3 eX11_game_17 ?_
      refine zc_vi1 eX11_game_18 lX11_335 tX11_isSetOfNames zs0 (by decide) (Nat.le_of_ble_eq_true rfl) (x_isSet _ H _) ?_
      rintro _ _ ⟨rfl, rfl⟩ -
      refine z_ieq eX11_game_21 rfl (fun c21 => ?_) (fun c21 => ?_)
      · have z21 := iteF c21
        refine z_al0 eX11_game_30 ?_
        refine z_ki eX11_game_31 ?_
        refine zc_vi1 eX11_game_32 lX11_153 tX11_fail zs0 (by decide) (Nat.le_of_ble_eq_true rfl) (x_fail _ _) ?_
        rintro _ _ ⟨rfl, rfl⟩ -
        refine ze_i eX11_game_35 rfl ?_
        have eq : qGame (h 122) a m o t = (-1, 2) := by unfold qGame; (repeat' split) <;> first | (exfalso; omega) | rfl
        exact pXL_no zXf.rf eq (by rw [eq]; decide)
      · have z21 := iteT c21
        obtain ⟨m, rfl⟩ := Int.eq_ofNat_of_zero_le z13.1
        obtain ⟨o, rfl⟩ := Int.eq_ofNat_of_zero_le z21.1
        refine z_il2 eX11_game_24 ?_
        refine z_il3 eX11_game_25 ?_
        refine z_iand eX11_game_26 ?_
        rw [kb_and (by omega)]
        refine z_ieq eX11_game_27 rfl (fun c27 => ?_) (fun c27 => ?_)
        · refine z_il4 eX11_game_36 ?_
          refine z_ki eX11_game_38 ?_
          refine z_clt eX11_game_39 rfl (fun c39 => ?_) (fun c39 => ?_)
          · refine z_al0 eX11_game_48 ?_
            refine z_ki eX11_game_49 ?_
            refine zc_vi1 eX11_game_50 lX11_153 tX11_fail zs0 (by decide) (Nat.le_of_ble_eq_true rfl) (x_fail _ _) ?_
            rintro _ _ ⟨rfl, rfl⟩ -
            refine ze_i eX11_game_53 rfl ?_
            have eq : qGame (h 122) a m o t = (-1, 5) := by
              unfold qGame
              rw [if_pos ⟨z5, z13, z21, by simp only [Int.toNat_natCast]; omega⟩, if_neg (by omega)]
            exact pXL_no zXf.rf eq (by rw [eq]; decide)
          · refine z_il4 eX11_game_42 ?_
            refine z_ki eX11_game_44 ?_
            refine z_cle eX11_game_45 rfl (fun c45 => ?_) (fun c45 => ?_)
            · obtain ⟨t, rfl⟩ := Int.eq_ofNat_of_zero_le (show 0 ≤ t by omega)
              have c27b : m &&& o = 0 := by omega
              refine z_al0 eX11_game_54 ?_
              refine z_al0 eX11_game_55 ?_
              refine z_ga eX11_game_56 fX11_88 zs0 (t := 60) rfl ?_
              refine z_il1 eX11_game_59 ?_
              refine z_il2 eX11_game_60 ?_
              refine z_il3 eX11_game_61 ?_
              refine z_il4 eX11_game_62 ?_
              refine zc_vi4 eX11_game_64 lX11_338 tX6_play zs60 (by decide) (Nat.le_of_ble_eq_true rfl) (x_play h H _ rfl (h 122 2).toNat (stN hb) a m o (by omega) (by omega) t (by omega) (by omega)) ?_
              rintro y g hp -
              have hpy : (gmF (h 122) a m o (2 * t) (h 122 2).toNat = true ∧ y = 1) ∨ (gmF (h 122) a m o (2 * t) (h 122 2).toNat = false ∧ y = 0) := by
                cases z : gmF (h 122) a m o (2 * t) (h 122 2).toNat with
                | true => exact Or.inl ⟨rfl, (hp.1 z).1.symm⟩
                | false => exact Or.inr ⟨rfl, (hp.2 (by rw [z]; decide)).1.symm⟩
              refine z_ieq eX11_game_67 rfl (fun c67 => ?_) (fun c67 => ?_)
              · refine z_ki eX11_game_74 ?_
                refine zc_vi1 eX11_game_75 lX11_202 tX11_answer zs0 (by decide) (Nat.le_of_ble_eq_true rfl) (x_answer _ _) ?_
                rintro _ _ ⟨rfl, rfl⟩ -
                refine ze_i eX11_game_78 rfl ?_
                have eq : qGame (h 122) a m o t = (bI (gmF (h 122) a m o (2 * t) (h 122 2).toNat), 0) := by
                  unfold qGame
                  rw [if_pos ⟨z5, z13, z21, by simp only [Int.toNat_natCast]; omega⟩, if_pos (by omega)]; rfl
                have hz : gmF (h 122) a m o (2 * t) (h 122 2).toNat = false := by rcases hpy with z | z; omega; exact z.1
                obtain ⟨-, hx⟩ := hp.2 (by rw [hz]; decide)
                rw [hz] at eq
                exact pXL_no hx eq (by rw [eq]; decide)
              · refine z_ki eX11_game_70 ?_
                refine z_goto eX11_game_71 rfl ?_
                refine zc_vi1 eX11_game_75 lX11_202 tX11_answer zs0 (by decide) (Nat.le_of_ble_eq_true rfl) (x_answer _ _) ?_
                rintro _ _ ⟨rfl, rfl⟩ -
                refine ze_i eX11_game_78 rfl ?_
                have eq : qGame (h 122) a m o t = (bI (gmF (h 122) a m o (2 * t) (h 122 2).toNat), 0) := by
                  unfold qGame
                  rw [if_pos ⟨z5, z13, z21, by simp only [Int.toNat_natCast]; omega⟩, if_pos (by omega)]; rfl
                have hz : gmF (h 122) a m o (2 * t) (h 122 2).toNat = true := by rcases hpy with z | z; exact z.1; omega
                obtain ⟨-, g1, hx, hg1⟩ := hp.1 hz
                rw [hz] at eq
                rw [eq]
                refine ⟨rfl, zup_at _ _ _ _, fun b hb2 => by rw [zup_off (by omega), ← hg1, zup_off (by omega), zup_off (by omega)]; exact hx.2.1 b hb2, fun _ => ⟨?_, ?_, ?_⟩, fun z => absurd rfl z⟩
                · rw [← hg1]
                  exact zEx.up (zEx.up (zEx.up (hx.1.wk (by simp)) (Or.inr (show 4 ∈ [4] by decide))) (Or.inr (show 4 ∈ [4] by decide))) (Or.inl rfl)
                · rw [zup_off (by decide), ← hg1, zup_ne (by decide), zup_at]
                · rw [zup_off (by decide), ← hg1, zup_at]; rfl
            · refine z_al0 eX11_game_48 ?_
              refine z_ki eX11_game_49 ?_
              refine zc_vi1 eX11_game_50 lX11_153 tX11_fail zs0 (by decide) (Nat.le_of_ble_eq_true rfl) (x_fail _ _) ?_
              rintro _ _ ⟨rfl, rfl⟩ -
              refine ze_i eX11_game_53 rfl ?_
              have eq : qGame (h 122) a m o t = (-1, 5) := by
                unfold qGame
                rw [if_pos ⟨z5, z13, z21, by simp only [Int.toNat_natCast]; omega⟩, if_neg (by omega)]
              exact pXL_no zXf.rf eq (by rw [eq]; decide)
        · refine z_al0 eX11_game_30 ?_
          refine z_ki eX11_game_31 ?_
          refine zc_vi1 eX11_game_32 lX11_153 tX11_fail zs0 (by decide) (Nat.le_of_ble_eq_true rfl) (x_fail _ _) ?_
          rintro _ _ ⟨rfl, rfl⟩ -
          refine ze_i eX11_game_35 rfl ?_
          have eq : qGame (h 122) a m o t = (-1, 2) := by
            unfold qGame
            rw [if_neg (fun z => c27 (by have z4 := z.2.2.2; simp only [Int.toNat_natCast] at z4; rw [z4]; rfl))]
          exact pXL_no zXf.rf eq (by rw [eq]; decide)
