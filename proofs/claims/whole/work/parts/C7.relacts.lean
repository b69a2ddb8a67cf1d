-- the class's acts; both sides put together (written by wip/tools/specK6b.py)
/-- the class after a text of acts -/
def xAf (h0 : zHp) (R : Rs) (v : Int) (g : zHp) : Prop := match R with
  | .inl e => (0 : Int) = v ∧ xXs 40 47 h0 e.1 e.2 g
  | .inr t => (1 : Int) = v ∧ xHf 40 47 h0 g ∧ g 2 8 = 0 ∧ g 2 9 = -1 ∧ aI g t.2.2.2.2.2 t.2.2.2.2.1 t.2.1 t.2.2.1 t.2.2.2.1 ∧ t.2.2.2.1 = []
theorem xAf01 {h0 g : zHp} {R : Rs} {v : Int} (H : xAf h0 R v g) : v = 0 ∨ v = 1 := by
  cases R with
  | inl e => exact Or.inl H.1.symm
  | inr s => exact Or.inr H.1.symm
theorem aI.fr {h g A : zHp} {sp : Int} {s n : Nat} {stk : List (Nat × Nat)} (I : aI h A sp s n stk) (F : xFr h g) : aI g A sp s n stk := by
  obtain ⟨i1, i2, i3, i4, i5⟩ := I
  refine ⟨by rw [F.1 40 (by decide)]; exact i1, i2, i3, bg_cg stk (fun i _ => by rw [F.1 47 (by decide)]) i4, pb_cg stk s n i5 (fun j _ => mx_rw (fun _ _ => rfl)) (fun i _ => mx_nd (fun c hc => by rw [F.1 c (by omega)]))⟩
theorem enF_n {B : Nat → Int} {L q s n : Nat} {stk : List (Nat × Nat)} {sp : Int} {A : zHp} {t : aP} (h : enF B L q s n stk sp A = .inr t) : t.2.2.1 = n + 1 := by
  cases stk with
  | nil => unfold enF at h; cases h
  | cons p r =>
    have h2 : (if sgK B L (tkE B L q) = 0 then .inr (tkE B L (tkE B L q), s, n + 1, r, sp, zup A 129 p.2 (s : Int)) else .inl (sgK B L (tkE B L q), tkA B L (tkE B L q)) : Rs) = .inr t := h
    split at h2
    · injection h2 with e; rw [← e]
    · cases h2
theorem seF_n {B : Nat → Int} {L q s n : Nat} {stk : List (Nat × Nat)} {sp : Int} {A : zHp} {t : aP} (h : seF B L q s n stk sp A = .inr t) : t.2.2.1 = n + 1 := by
  unfold seF at h
  split at h
  · cases h
  · split at h
    · cases h
    · split at h
      · cases h
      · generalize arF B L s (tkE B L q) (kdS B L q) (zup A 126 s (kdS B L q)) = R at h
        cases R with
        | inl e => cases h
        | inr r =>
          unfold hdF at h
          by_cases z : sgK B L r.1 = 0
          · have h2 : (if sgK B L r.1 = 0 then _ else _ : Rs) = .inr t := h
            rw [if_pos z] at h2; injection h2 with e; rw [← e]
          · have h2 : (if sgK B L r.1 = 0 then _ else _ : Rs) = .inr t := h
            rw [if_neg z] at h2; cases h2
theorem x_ac_l (h0 : zHp) (B : Nat → Int) (L : Nat) (T0 : Rs) : ∀ (r q s n : Nat) (stk : List (Nat × Nat)) (sp : Int) (A h : zHp), q + r = L → xTs 40 47 h0 B L h → h 2 3 = (q : Int) → q ≤ L → aI h A sp s n stk → T0 = itR B L (q, s, n, stk, sp, A) → zRW mX0_readFrom 9 (0, 0) 22 [zA 40, zA 2, zI n] [] 143 h (zqi (fun v h' => xAf h0 T0 v h')) := by
  intro r
  induction r using Nat.strongRecOn with
  | ind r ih =>
    intro q s n stk sp A h hk S e3 hq I hT
    have i2 := I.2.1
    refine z_il2 eX0_readFrom_22 ?_
    refine z_ki eX0_readFrom_23 ?_
    refine z_cgt eX0_readFrom_25 rfl (fun c25 => ?_) (fun c25 => ?_)
    · omega
    · refine z_al1 eX0_readFrom_28 ?_
      refine zc_vv0 eX0_readFrom_29 lX0_55 tX9_advance zs2 (by decide) (Nat.le_of_ble_eq_true rfl) (x_adv h B L S.2.1 q hq e3) ?_
      rintro g1 ⟨F1, T1⟩
      have S1 := S.fr F1
      have I1 := I.fr F1
      have o10 := I1.1.2.2.2
      refine z_al1 eX0_readFrom_32 ?_
      refine zc_vi0 eX0_readFrom_33 lX0_60 tX9_atEnd zs2 (by decide) (Nat.le_of_ble_eq_true rfl) (x_atEnd _ B L q T1) ?_
      rintro _ _ ⟨rfl, rfl⟩ -
      refine z_ieq eX0_readFrom_36 rfl (fun c36 => ?_) (fun c36 => ?_)
      · have z36 := iteF c36
        refine z_al1 eX0_readFrom_60 ?_
        refine z_ldcS eX0_readFrom_61 sX0_68 ?_
        refine zc_vi1 eX0_readFrom_63 lX0_70 tX9_at zs2 (by decide) (Nat.le_of_ble_eq_true rfl) (x_at _ B L S1.2.1 q hq T1 13 (by decide)) ?_
        rintro _ _ ⟨rfl, rfl⟩ -
        refine z_ieq eX0_readFrom_66 rfl (fun c66 => ?_) (fun c66 => ?_)
        · have z66 := iteF c66
          refine z_al0 eX0_readFrom_80 ?_
          refine z_al1 eX0_readFrom_81 ?_
          refine zc_vi1 eX0_readFrom_82 lX0_78 tX0_readStep zs40 (by decide) (Nat.le_of_ble_eq_true rfl) (x_readStep2 h0 g1 B L q s n stk sp A S1 T1 hq I1 z36) ?_
          rintro v1 g2 R1 -
          refine z_ine eX0_readFrom_85 rfl (fun c85 => ?_) (fun c85 => ?_)
          · refine z_incN2 eX0_readFrom_90 zn2 (by omega) (by omega) ?_
            refine z_goto eX0_readFrom_93 rfl ?_
            have hT2 := hT
            rw [itR_s hq z36, if_neg z66] at hT2
            generalize eR : seF B L q s n stk sp A = R at R1 hT2
            rcases R with e | t
            · exact absurd R1.1.symm c85
            · obtain ⟨q2, s2, n2, stk2, sp2, A2⟩ := t
              obtain ⟨-, y2, y3, y4, y5, y6⟩ := R1
              have en : n2 = n + 1 := seF_n eR
              subst en
              exact ih (L - q2) (by have : q < q2 := y2; have : q2 ≤ L := y3; omega) q2 s2 (n + 1) stk2 sp2 A2 _ (by have : q2 ≤ L := y3; omega) y5 y4 y3 y6 hT2
          · refine z_ki eX0_readFrom_88 ?_
            refine ze_z eX0_readFrom_89 rfl (by first | exact Or.inl rfl | exact Or.inr rfl) ?_
            have hT2 := hT
            rw [itR_s hq z36, if_neg z66] at hT2
            generalize eR : seF B L q s n stk sp A = R at R1 hT2
            rcases R with e | t
            · rw [hT2]; exact ⟨rfl, R1.2⟩
            · exact absurd (R1.1.trans c85) (by decide)
        · have z66 := iteT c66
          refine z_al0 eX0_readFrom_69 ?_
          refine z_al1 eX0_readFrom_70 ?_
          refine zc_vi1 eX0_readFrom_71 lX0_74 tX0_readEnd zs40 (by decide) (Nat.le_of_ble_eq_true rfl) (x_readEnd h0 g1 B L q s n stk sp A S1 T1 hq I1 z66) ?_
          rintro v1 g2 R1 -
          refine z_ieq eX0_readFrom_74 rfl (fun c74 => ?_) (fun c74 => ?_)
          · refine z_ki eX0_readFrom_88 ?_
            refine ze_z eX0_readFrom_89 rfl (by first | exact Or.inl rfl | exact Or.inr rfl) ?_
            have hT2 := hT
            rw [itR_s hq z36, if_pos z66] at hT2
            generalize eR : enF B L q s n stk sp A = R at R1 hT2
            rcases R with e | t
            · rw [hT2]; exact ⟨rfl, R1.2⟩
            · exact absurd (R1.1.trans c74) (by decide)
          · refine z_goto eX0_readFrom_77 rfl ?_
            refine z_incN2 eX0_readFrom_90 zn2 (by omega) (by omega) ?_
            refine z_goto eX0_readFrom_93 rfl ?_
            have hT2 := hT
            rw [itR_s hq z36, if_pos z66] at hT2
            generalize eR : enF B L q s n stk sp A = R at R1 hT2
            rcases R with e | t
            · exact absurd R1.1.symm c74
            · obtain ⟨q2, s2, n2, stk2, sp2, A2⟩ := t
              obtain ⟨-, y2, y3, y4, y5, y6⟩ := R1
              have en : n2 = n + 1 := enF_n eR
              subst en
              exact ih (L - q2) (by have : q < q2 := y2; have : q2 ≤ L := y3; omega) q2 s2 (n + 1) stk2 sp2 A2 _ (by have : q2 ≤ L := y3; omega) y5 y4 y3 y6 hT2
      · have z36 := iteT c36
        refine z_al0 eX0_readFrom_39 ?_
        refine z_gi eX0_readFrom_40 fX0_52 zs40 ?_
        refine z_ieq eX0_readFrom_43 rfl (fun c43 => ?_) (fun c43 => ?_)
        · refine z_ki eX0_readFrom_54 ?_
          refine z_goto eX0_readFrom_55 rfl ?_
          refine ze_z eX0_readFrom_59 rfl (by first | exact Or.inl rfl | exact Or.inr rfl) ?_
          have en : stk = [] := List.length_eq_zero_iff.1 (by omega)
          rw [hT, itR_0 hq z36, if_pos en]
          exact ⟨rfl, S1.1, S1.2.2.1, S1.2.2.2, I1, en⟩
        · refine z_al1 eX0_readFrom_46 ?_
          refine z_ki eX0_readFrom_47 ?_
          refine zc_vi1 eX0_readFrom_48 lX0_64 tX9_refuse zs2 (by decide) (Nat.le_of_ble_eq_true rfl) (x_ref T1 _) ?_
          rintro _ _ ⟨rfl, rfl⟩ -
          refine z_ieq eX0_readFrom_51 rfl (fun c51 => ?_) (fun c51 => ?_)
          · refine z_ki eX0_readFrom_58 ?_
            refine ze_z eX0_readFrom_59 rfl (by first | exact Or.inl rfl | exact Or.inr rfl) ?_
            have en : ¬ stk = [] := fun z => by rw [z, List.length_nil] at o10; exact c43 o10
            rw [hT, itR_0 hq z36, if_neg en]
            exact ⟨rfl, S1.bad _ _⟩
          · exact absurd rfl c51
theorem x_acFrom (h0 h : zHp) (B : Nat → Int) (L : Nat) (A : zHp) (S : xTs 40 47 h0 B L h) (e3 : h 2 3 = 0) : zCi mX0_readFrom 9 [zA 40, zA 2] h (fun v h' => xAf h0 (itR B L (0, 0, 0, [], 0, A)) v h') := by
  refine z_enter [zA 40, zA 2, zU] (by decide +kernel) (Nat.le_of_ble_eq_true rfl) rfl (fun hra hrg => ?_)
  refine z_al0 eX0_readFrom_0 ?_
  refine z_ki eX0_readFrom_1 ?_
  refine z_pi eX0_readFrom_2 pX0_35 zs40 ?_
  refine z_al0 eX0_readFrom_5 ?_
  refine z_ki eX0_readFrom_6 ?_
  refine z_pi eX0_readFrom_7 pX0_39 zs40 ?_
  refine z_al0 eX0_readFrom_10 ?_
  refine z_ki eX0_readFrom_11 ?_
  refine z_pz eX0_readFrom_12 pX0_42 zs40 (by first | exact Or.inl rfl | exact Or.inr rfl) ?_
  refine z_al0 eX0_readFrom_15 ?_
  refine z_ki eX0_readFrom_16 ?_
  refine z_pi eX0_readFrom_17 pX0_52 zs40 ?_
  refine z_ki eX0_readFrom_20 ?_
  refine z_is2 eX0_readFrom_21 zn2 ?_
  exact x_ac_l h0 B L _ L 0 0 0 [] 0 A _ (by omega) ((((S.up (c := 40) (by decide) (by decide) _ _).up (c := 40) (by decide) (by decide) _ _).up (c := 40) (by decide) (by decide) _ _).up (c := 40) (by decide) (by decide) _ _) (by rw [zup_off (by decide), zup_off (by decide), zup_off (by decide), zup_off (by decide)]; exact e3) (Nat.zero_le _) ⟨⟨by rw [zup_ne (by decide), zup_ne (by decide), zup_ne (by decide), zup_at]; rfl, by rw [zup_ne (by decide), zup_ne (by decide), zup_at]; rfl, by rw [zup_ne (by decide), zup_at], by rw [zup_at]; rfl⟩, ⟨by omega, by rw [List.length_nil]; omega, by rw [List.length_nil]; omega⟩, Or.inl rfl, trivial, blk_0 40⟩ rfl
def cpX (h g : zHp) : Prop := (∀ c : Nat, ¬ (32 ≤ c ∧ c ≤ 38) → g c = h c) ∧ g 32 0 = h 40 0 ∧ g 32 1 = h 40 1 ∧ g 32 2 = h 40 2 ∧ (∀ i : Nat, i < 80 → g 33 i = h 41 i) ∧ (∀ i : Nat, i < 80 → g 34 i = h 42 i) ∧ (∀ i : Nat, i < 80 → g 35 i = h 43 i) ∧ (∀ i : Nat, i < 80 → g 36 i = h 44 i) ∧ (∀ i : Nat, i < 80 → g 37 i = h 45 i) ∧ (∀ i : Nat, i < 80 → g 38 i = h 46 i)
theorem cpX_h (h : zHp) : cpX h (zcp (zcp (zcp (zcp (zcp (zcp (zup (zup (zup h 32 0 (h 40 0)) 32 1 (h 40 1)) 32 2 (h 40 2)) 41 0 33 0 80) 42 0 34 0 80) 43 0 35 0 80) 44 0 36 0 80) 45 0 37 0 80) 46 0 38 0 80) := by
  refine ⟨fun c hc => by rw [zcp_off (by omega), zcp_off (by omega), zcp_off (by omega), zcp_off (by omega), zcp_off (by omega), zcp_off (by omega), zup_off (by omega), zup_off (by omega), zup_off (by omega)], by rw [zcp_off (by decide), zcp_off (by decide), zcp_off (by decide), zcp_off (by decide), zcp_off (by decide), zcp_off (by decide), zup_ne (by decide), zup_ne (by decide), zup_at], by rw [zcp_off (by decide), zcp_off (by decide), zcp_off (by decide), zcp_off (by decide), zcp_off (by decide), zcp_off (by decide), zup_ne (by decide), zup_at], by rw [zcp_off (by decide), zcp_off (by decide), zcp_off (by decide), zcp_off (by decide), zcp_off (by decide), zcp_off (by decide), zup_at], fun i hi => by rw [zcp_off (by decide), zcp_off (by decide), zcp_off (by decide), zcp_off (by decide), zcp_off (by decide), zcp_on hi, zup_off (by decide), zup_off (by decide), zup_off (by decide)], fun i hi => by rw [zcp_off (by decide), zcp_off (by decide), zcp_off (by decide), zcp_off (by decide), zcp_on hi, zcp_off (by decide), zup_off (by decide), zup_off (by decide), zup_off (by decide)], fun i hi => by rw [zcp_off (by decide), zcp_off (by decide), zcp_off (by decide), zcp_on hi, zcp_off (by decide), zcp_off (by decide), zup_off (by decide), zup_off (by decide), zup_off (by decide)], fun i hi => by rw [zcp_off (by decide), zcp_off (by decide), zcp_on hi, zcp_off (by decide), zcp_off (by decide), zcp_off (by decide), zup_off (by decide), zup_off (by decide), zup_off (by decide)], fun i hi => by rw [zcp_off (by decide), zcp_on hi, zcp_off (by decide), zcp_off (by decide), zcp_off (by decide), zcp_off (by decide), zup_off (by decide), zup_off (by decide), zup_off (by decide)], fun i hi => by rw [zcp_on hi, zcp_off (by decide), zcp_off (by decide), zcp_off (by decide), zcp_off (by decide), zcp_off (by decide), zup_off (by decide), zup_off (by decide), zup_off (by decide)]⟩
theorem x_copyActs (h : zHp) : zCv mX0_copyFrom 1 [zA 32, zA 40] h (fun h' => cpX h h') := by
  refine z_enter [zA 32, zA 40] (by decide +kernel) (Nat.le_of_ble_eq_true rfl) rfl (fun hra hrg => ?_)
  refine z_al0 eX0_copyFrom_0 ?_
  refine z_al1 eX0_copyFrom_1 ?_
  refine z_gi eX0_copyFrom_2 fX0_35 zs40 ?_
  refine z_pi eX0_copyFrom_5 pX0_35 zs32 ?_
  refine z_al0 eX0_copyFrom_8 ?_
  refine z_al1 eX0_copyFrom_9 ?_
  refine z_gi eX0_copyFrom_10 fX0_39 zs40 ?_
  rw [zup_off (by decide)]
  refine z_pi eX0_copyFrom_13 pX0_39 zs32 ?_
  refine z_al0 eX0_copyFrom_16 ?_
  refine z_al1 eX0_copyFrom_17 ?_
  refine z_gi eX0_copyFrom_18 fX0_42 zs40 ?_
  rw [zup_off (by decide), zup_off (by decide)]
  refine z_pz eX0_copyFrom_21 pX0_42 zs32 (by have := hrg 40 2 0 11 (by decide) rfl (by decide); have : 0 ≤ h 40 2 ∧ h 40 2 ≤ 1 := this; omega) ?_
  refine z_al1 eX0_copyFrom_24 ?_
  refine z_ga eX0_copyFrom_25 fX0_11 zs40 (t := 41) rfl ?_
  refine z_ki eX0_copyFrom_28 ?_
  refine z_al0 eX0_copyFrom_29 ?_
  refine z_ga eX0_copyFrom_30 fX0_11 zs32 (t := 33) rfl ?_
  refine z_ki eX0_copyFrom_33 ?_
  refine z_ki eX0_copyFrom_34 ?_
  refine zy_i eX0_copyFrom_36 lX0_46 (Or.inl rfl) zs41 zs33 (by decide) (by decide) (by decide) (by decide) (by decide) (by decide) (Nat.le_of_ble_eq_true rfl) ?_
  refine z_al1 eX0_copyFrom_39 ?_
  refine z_ga eX0_copyFrom_40 fX0_15 zs40 (t := 42) rfl ?_
  refine z_ki eX0_copyFrom_43 ?_
  refine z_al0 eX0_copyFrom_44 ?_
  refine z_ga eX0_copyFrom_45 fX0_15 zs32 (t := 34) rfl ?_
  refine z_ki eX0_copyFrom_48 ?_
  refine z_ki eX0_copyFrom_49 ?_
  refine zy_i eX0_copyFrom_51 lX0_46 (Or.inl rfl) zs42 zs34 (by decide) (by decide) (by decide) (by decide) (by decide) (by decide) (Nat.le_of_ble_eq_true rfl) ?_
  refine z_al1 eX0_copyFrom_54 ?_
  refine z_ga eX0_copyFrom_55 fX0_18 zs40 (t := 43) rfl ?_
  refine z_ki eX0_copyFrom_58 ?_
  refine z_al0 eX0_copyFrom_59 ?_
  refine z_ga eX0_copyFrom_60 fX0_18 zs32 (t := 35) rfl ?_
  refine z_ki eX0_copyFrom_63 ?_
  refine z_ki eX0_copyFrom_64 ?_
  refine zy_i eX0_copyFrom_66 lX0_46 (Or.inl rfl) zs43 zs35 (by decide) (by decide) (by decide) (by decide) (by decide) (by decide) (Nat.le_of_ble_eq_true rfl) ?_
  refine z_al1 eX0_copyFrom_69 ?_
  refine z_ga eX0_copyFrom_70 fX0_21 zs40 (t := 44) rfl ?_
  refine z_ki eX0_copyFrom_73 ?_
  refine z_al0 eX0_copyFrom_74 ?_
  refine z_ga eX0_copyFrom_75 fX0_21 zs32 (t := 36) rfl ?_
  refine z_ki eX0_copyFrom_78 ?_
  refine z_ki eX0_copyFrom_79 ?_
  refine zy_l eX0_copyFrom_81 lX0_46 zs44 zs36 (by decide) (by decide) (by decide) (by decide) (by decide) (by decide) (Nat.le_of_ble_eq_true rfl) ?_
  refine z_al1 eX0_copyFrom_84 ?_
  refine z_ga eX0_copyFrom_85 fX0_25 zs40 (t := 45) rfl ?_
  refine z_ki eX0_copyFrom_88 ?_
  refine z_al0 eX0_copyFrom_89 ?_
  refine z_ga eX0_copyFrom_90 fX0_25 zs32 (t := 37) rfl ?_
  refine z_ki eX0_copyFrom_93 ?_
  refine z_ki eX0_copyFrom_94 ?_
  refine zy_i eX0_copyFrom_96 lX0_46 (Or.inr rfl) zs45 zs37 (by decide) (by decide) (by decide) (by decide) (by decide) (by decide) (Nat.le_of_ble_eq_true rfl) ?_
  refine z_al1 eX0_copyFrom_99 ?_
  refine z_ga eX0_copyFrom_100 fX0_29 zs40 (t := 46) rfl ?_
  refine z_ki eX0_copyFrom_103 ?_
  refine z_al0 eX0_copyFrom_104 ?_
  refine z_ga eX0_copyFrom_105 fX0_29 zs32 (t := 38) rfl ?_
  refine z_ki eX0_copyFrom_108 ?_
  refine z_ki eX0_copyFrom_109 ?_
  refine zy_i eX0_copyFrom_111 lX0_46 (Or.inl rfl) zs46 zs38 (by decide) (by decide) (by decide) (by decide) (by decide) (by decide) (Nat.le_of_ble_eq_true rfl) ?_
  refine ze_v eX0_copyFrom_114 rfl ?_
  exact cpX_h h
/-- what the class's acts come to -/
def xAp (g : zHp) (R : Rs) (v : Int) (h : zHp) : Prop := match R with
  | .inl e => (-1 : Int) = v ∧ ∃ f, xXs 40 47 g e.1 e.2 f ∧ zup (zup f 2 1 0) 0 0 10 = h
  | .inr t => (t.2.1 : Int) = v ∧ ∃ f f2, xHf 40 47 g f ∧ f 2 8 = 0 ∧ f 2 9 = -1 ∧ aI f t.2.2.2.2.2 t.2.2.2.2.1 t.2.1 t.2.2.1 t.2.2.2.1 ∧ t.2.2.2.1 = [] ∧ cpX (zup f 2 1 0) f2 ∧ zup f2 0 0 0 = h
theorem x_actsN (h : zHp) (n : Int) (hc : n < 0 ∨ h 2 1 < n ∨ 300 < n) : zCi mX11_acts 10 [zA 0, zI n] h (fun v h' => pX0 h (-1, 5) v h') := by
  refine z_enter [zA 0, zI n, zU] (by decide +kernel) (Nat.le_of_ble_eq_true rfl) rfl (fun hra hrg => ?_)
  refine z_al0 eX11_acts_0 ?_
  refine z_ga eX11_acts_1 fX11_18 zs0 (t := 2) rfl ?_
  refine z_il1 eX11_acts_4 ?_
  refine z_ki eX11_acts_5 ?_
  refine zc_vi2 eX11_acts_8 lX11_188 tX9_open zs2 (by decide) (Nat.le_of_ble_eq_true rfl) (x_openN _ _ _ hc) ?_
  rintro _ _ ⟨rfl, rfl⟩ -
  refine z_ine eX11_acts_11 rfl (fun c11 => ?_) (fun c11 => ?_)
  · exact absurd rfl c11
  · refine z_al0 eX11_acts_14 ?_
    refine z_ki eX11_acts_15 ?_
    refine zc_vi1 eX11_acts_16 lX11_153 tX11_fail zs0 (by decide) (Nat.le_of_ble_eq_true rfl) (x_fail _ _) ?_
    rintro _ _ ⟨rfl, rfl⟩ -
    refine ze_i eX11_acts_19 rfl ?_
    exact pX0_f zXf.rf rfl
theorem x_actsY (h : zHp) (B : Nat → Int) (L : Nat) (hL : (L : Int) ≤ h 2 1) (h300 : L ≤ 300) (hBy : ∀ i : Nat, i < L → h 3 i = B i ∧ -128 ≤ B i ∧ B i ≤ 127) (A : zHp) : zCi mX11_acts 10 [zA 0, zI L] h (fun v h' => xAp (xOp h L) (itR B L (0, 0, 0, [], 0, A)) v h') := by
  refine z_enter [zA 0, zI L, zU] (by decide +kernel) (Nat.le_of_ble_eq_true rfl) rfl (fun hra hrg => ?_)
  have S := xOp_S (lo := 40) (hi := 47) (show L ≤ 700 by omega) hBy
  refine z_al0 eX11_acts_0 ?_
  refine z_ga eX11_acts_1 fX11_18 zs0 (t := 2) rfl ?_
  refine z_il1 eX11_acts_4 ?_
  refine z_ki eX11_acts_5 ?_
  refine zc_vi2 eX11_acts_8 lX11_188 tX9_open zs2 (by decide) (Nat.le_of_ble_eq_true rfl) (x_openY _ _ _ (by omega)) ?_
  rintro _ _ ⟨rfl, rfl⟩ -
  refine z_ine eX11_acts_11 rfl (fun c11 => ?_) (fun c11 => ?_)
  · refine z_al0 eX11_acts_20 ?_
    refine z_ga eX11_acts_21 fX11_49 zs0 (t := 40) rfl ?_
    refine z_al0 eX11_acts_24 ?_
    refine z_ga eX11_acts_25 fX11_18 zs0 (t := 2) rfl ?_
    refine zc_vi1 eX11_acts_28 lX11_358 tX0_readFrom zs40 (by decide) (Nat.le_of_ble_eq_true rfl) (x_acFrom _ _ B L A S.1 S.2) ?_
    rintro v1 g1 R1 -
    refine z_is2 eX11_acts_31 zn0 ?_
    refine z_al0 eX11_acts_32 ?_
    refine z_ga eX11_acts_33 fX11_18 zs0 (t := 2) rfl ?_
    refine zc_vv0 eX11_acts_36 lX11_195 tX9_empty zs2 (by decide) (Nat.le_of_ble_eq_true rfl) (x_empty _) ?_
    rintro _ rfl
    refine z_il2 eX11_acts_39 ?_
    refine z_ine eX11_acts_40 rfl (fun c40 => ?_) (fun c40 => ?_)
    · generalize itR B L (0, 0, 0, [], 0, A) = R at R1 ⊢
      obtain ⟨s, rfl⟩ : ∃ s, R = .inr s := by
        rcases R with e | s
        · exact absurd R1.1.symm c40
        · exact ⟨s, rfl⟩
      obtain ⟨-, r2, r3, r4, r5, r6⟩ := R1
      refine z_al0 eX11_acts_50 ?_
      refine z_ga eX11_acts_51 fX11_45 zs0 (t := 32) rfl ?_
      refine z_al0 eX11_acts_54 ?_
      refine z_ga eX11_acts_55 fX11_49 zs0 (t := 40) rfl ?_
      refine zc_vv1 eX11_acts_58 lX11_359 tX0_copyFrom zs32 (by decide) (Nat.le_of_ble_eq_true rfl) (x_copyActs _) ?_
      rintro g2 C1
      refine z_al0 eX11_acts_61 ?_
      refine z_al0 eX11_acts_62 ?_
      refine z_ga eX11_acts_63 fX11_45 zs0 (t := 32) rfl ?_
      refine z_gi eX11_acts_66 fX11_362 zs32 ?_
      rw [show g2 32 1 = (s.2.1 : Int) from by rw [C1.2.2.1, zup_off (by decide)]; exact r5.1.2.1]
      refine zc_vi1 eX11_acts_69 lX11_202 tX11_answer zs0 (by decide) (Nat.le_of_ble_eq_true rfl) (x_answer _ _) ?_
      rintro _ _ ⟨rfl, rfl⟩ -
      refine ze_i eX11_acts_72 rfl ?_
      exact ⟨rfl, g1, g2, r2, r3, r4, r5, r6, C1, rfl⟩
    · generalize itR B L (0, 0, 0, [], 0, A) = R at R1 ⊢
      obtain ⟨e, rfl⟩ : ∃ e, R = .inl e := by
        rcases R with e | s
        · exact ⟨e, rfl⟩
        · exact absurd (R1.1.trans c40) (by decide)
      refine z_al0 eX11_acts_43 ?_
      refine z_ki eX11_acts_44 ?_
      refine zc_vi1 eX11_acts_46 lX11_153 tX11_fail zs0 (by decide) (Nat.le_of_ble_eq_true rfl) (x_fail _ _) ?_
      rintro _ _ ⟨rfl, rfl⟩ -
      refine ze_i eX11_acts_49 rfl ?_
      exact ⟨rfl, g1, R1.2, rfl⟩
  · exact absurd c11 (by decide)
theorem xAp_hi {g h : zHp} {R : Rs} {v : Int} (H : xAp g R v h) : ∀ c : Nat, 48 ≤ c → h c = g c := by
  intro c hc
  cases R with
  | inl e =>
    obtain ⟨-, f, X, e2⟩ := H
    rw [← e2, zup_off (by omega), zup_off (by omega)]
    exact X.1.1 c (by omega) (by omega)
  | inr s =>
    obtain ⟨-, f, f2, X, -, -, -, -, C, e2⟩ := H
    rw [← e2, zup_off (by omega), C.1 c (by omega), zup_off (by omega)]
    exact X.1 c (by omega) (by omega)
theorem obc_a8 (a i : Nat) (h : 32 ≤ a ∧ a ≤ 38) : obc a i = 8 := by
  have : a = 32 ∨ a = 33 ∨ a = 34 ∨ a = 35 ∨ a = 36 ∨ a = 37 ∨ a = 38 := by omega
  rcases this with rfl | rfl | rfl | rfl | rfl | rfl | rfl <;> rfl
theorem obc_m8 (a i : Nat) (h : 126 ≤ a ∧ a ≤ 135) : obc a i = 8 ∨ obc a i = 0 := by
  have : a = 126 ∨ a = 127 ∨ a = 128 ∨ a = 129 ∨ a = 130 ∨ a = 131 ∨ a = 132 ∨ a = 133 ∨ a = 134 ∨ a = 135 := by omega
  rcases this with rfl | rfl | rfl | rfl | rfl | rfl | rfl | rfl | rfl | rfl <;> first | exact Or.inl rfl | exact Or.inr rfl
theorem exR {h h1 h2 : zHp} (x1 : ∀ c : Nat, ¬ c = 0 → ¬ c = 2 → ¬ (32 ≤ c ∧ c ≤ 38) → ¬ (40 ≤ c ∧ c ≤ 47) → h1 c = h c) (x0 : ∀ i : Nat, ¬ i = 0 → h1 0 i = h 0 i) (m1 : ∀ c : Nat, ¬ c = 117 → ¬ (126 ≤ c ∧ c ≤ 135) → h2 c = h1 c) (m2 : ∀ i : Nat, ¬ i = 0 → ¬ i = 1 → ¬ (8 ≤ i ∧ i ≤ 19) → ¬ i = 26 → ¬ i = 33 → ¬ i = 27 → ¬ i = 34 → h2 117 i = h1 117 i) : zEx [2, 8] h h2 := by
  intro c c1 c2 cL a i hai
  have n2 : ¬ c = 2 := fun z => cL (by rw [z]; decide)
  have n8 : ¬ c = 8 := fun z => cL (by rw [z]; decide)
  have sm : ∀ b : Nat, a = b → obc b i = c := fun b e => e ▸ hai
  have hx : a = 0 ∨ h1 a = h a := by
    by_cases z0 : a = 0
    · exact Or.inl z0
    · refine Or.inr (x1 a z0 (fun z => ?_) (fun z => ?_) (fun z => ?_))
      · have q : (if i = 1 ∨ i = 8 ∨ i = 9 then 2 else 0) = c := sm 2 z
        split at q <;> omega
      · have q : obc a i = 8 := obc_a8 a i (by omega)
        omega
      · have q : obc a i = 0 := obc_sp a i (by omega)
        omega
  have h0 : a = 0 → h1 a i = h a i := fun z => by
    subst z
    exact x0 i (fun z => by have q : (if i = 11 then 6 else 0) = c := hai; rw [if_neg (by omega)] at q; omega)
  have hx2 : h1 a i = h a i := by
    rcases hx with z | z
    · exact h0 z
    · rw [z]
  by_cases p1 : a = 117
  · subst p1
    have hq : (if i = 2 ∨ i = 3 then 9 else if i = 8 ∨ i = 10 ∨ i = 11 then 2 else if i = 22 then 6 else if i = 26 ∨ i = 33 then 8 else if i = 29 ∨ i = 30 ∨ i = 31 ∨ i = 32 ∨ i = 35 then 7 else if i = 49 ∨ i = 50 ∨ i = 51 ∨ i = 52 then 3 else if i = 61 ∨ i = 62 then 4 else 0) = c := hai
    clear hai sm
    rw [m2 i ?_ ?_ ?_ ?_ ?_ ?_ ?_]
    · exact hx2
    all_goals (intro z; (repeat' split at hq) <;> omega)
  · rw [m1 a p1 (fun z => ?_)]
    · exact hx2
    · rcases obc_m8 a i z with q | q <;> omega
theorem rel_acts {h h1 h2 : zHp} (H : Rel h) {L : Nat} {v v' : Int} (hx : xAp (xOp h L) (itR (h 3) L (0, 0, 0, [], 0, nwA h)) v h1) (hm : ∃ g, opP (zup (zup h1 117 1 0) 117 0 0) (h 3) L g ∧ mAp g (itR (h 3) L (0, 0, 0, [], 0, nwA h1)) v' h2) : rOut h v v' h2 := by
  obtain ⟨g, O, hm⟩ := hm
  have hi : ∀ c : Nat, 48 ≤ c → h1 c = h c := fun c hc => (xAp_hi hx c hc).trans (xOp_c (by omega))
  have eD : nwA h1 = nwA h := by unfold nwA; rw [hi 130 (by omega), hi 131 (by omega), hi 132 (by omega), hi 133 (by omega), hi 135 (by omega)]
  rw [eD] at hm
  have og : ∀ c : Nat, ¬ c = 117 → g c = h1 c := fun c hc => by rw [O.1 c hc, zup_off hc, zup_off hc]
  have oi : ∀ i : Nat, ¬ i = 0 → ¬ i = 1 → ¬ i = 8 → ¬ i = 9 → ¬ (12 ≤ i ∧ i ≤ 19) → g 117 i = h1 117 i := fun i i0 i1 i2 i3 i4 => by rw [O.2.1 i i2 i3 i4, zup_ne (by omega), zup_ne (by omega)]
  have o0 : g 117 0 = 0 := by rw [O.2.1 0 (by decide) (by decide) (by decide), zup_at]
  generalize itR (h 3) L (0, 0, 0, [], 0, nwA h) = R at hx hm
  cases R with
  | inl e =>
    obtain ⟨rfl, f, X, e1⟩ := hx
    obtain ⟨rfl, g2, X2, e2⟩ := hm
    have h1c : ∀ c : Nat, ¬ c = 0 → ¬ c = 2 → ¬ (32 ≤ c ∧ c ≤ 38) → ¬ (40 ≤ c ∧ c ≤ 47) → h1 c = h c := fun c c1 c2 _ c3 => by rw [← e1, zup_off c1, zup_off c2, X.1.1 c c2 c3, xOp_c c2]
    have h3c : ∀ c : Nat, 32 ≤ c ∧ c ≤ 38 → h1 c = h c := fun c hc => by rw [← e1, zup_off (by omega), zup_off (by omega), X.1.1 c (by omega) (by omega), xOp_c (by omega)]
    have h10 : ∀ i : Nat, ¬ i = 0 → h1 0 i = h 0 i := fun i hi => by rw [← e1, zup_ne (by omega), zup_off (by decide), X.1.1 0 (by decide) (by omega), xOp_c (by decide)]
    have h2c : ∀ c : Nat, ¬ c = 117 → ¬ (130 ≤ c ∧ c ≤ 133) → ¬ c = 135 → h2 c = h1 c := fun c c1 c2 c3 => by rw [← e2, zup_off c1, zup_off c1, zup_off c1, X2.1.1 c c1 c2 c3, og c c1]
    have h2i : ∀ i : Nat, ¬ i = 0 → ¬ i = 1 → ¬ (8 ≤ i ∧ i ≤ 19) → ¬ i = 27 → ¬ i = 34 → h2 117 i = h1 117 i := fun i i0 i1 i2 i3 i4 => by rw [← e2, zup_ne (by omega), zup_ne (by omega), zup_ne (by omega), X2.1.2 i (by omega) i3 i4, oi i i0 i1 (by omega) (by omega) (by omega)]
    have E := exR h1c h10 (fun c c1 c2 => h2c c c1 (by omega) (by omega)) (fun i i0 i1 i2 _ _ i3 i4 => h2i i i0 i1 i2 i3 i4)
    have s0 : h2 0 0 = 10 := by rw [h2c 0 (by decide) (by omega) (by decide), ← e1, zup_at]
    have s7 : h2 117 0 = 10 := by rw [← e2, zup_at]
    refine ⟨rfl, Rel.exL E (by rw [s0, s7]) H (by simp) (fun _ => ?_) (by simp) (by simp) (by simp) (by simp) (by simp) (fun _ => ?_) (by simp), ?_, ?_, fun z => ?_⟩
    · have a8 : h2 117 8 = 0 := by rw [← e2, zup_ne (by decide), zup_ne (by decide), zup_ne (by decide), X2.1.2 8 (by decide) (by decide) (by decide), O.2.2.1]
      have a10 : h2 117 10 = e.1 := by rw [← e2, zup_ne (by decide), zup_ne (by decide), zup_at]
      have a11 : h2 117 11 = (e.2 : Int) := by rw [← e2, zup_ne (by decide), zup_at]
      have b1 : h2 2 1 = 0 := by rw [h2c 2 (by decide) (by omega) (by decide), ← e1, zup_off (by decide), zup_at]
      have b8 : h2 2 8 = e.1 := by rw [h2c 2 (by decide) (by omega) (by decide), ← e1, zup_off (by decide), zup_ne (by decide)]; exact X.2.1
      have b9 : h2 2 9 = (e.2 : Int) := by rw [h2c 2 (by decide) (by omega) (by decide), ← e1, zup_off (by decide), zup_ne (by decide)]; exact X.2.2
      unfold rTape
      rw [a8, a10, a11, b1, b8, b9]
      exact ⟨rfl, by omega, by omega, fun i hi => by omega, rfl, rfl⟩
    · refine rActs_oc (h := h) (fun a i hai => ?_) H.2.2.2.2.2.2.2.2.1
      by_cases p1 : a = 117
      · subst p1
        have q : i = 26 ∨ i = 33 := by
          have hq : (if i = 2 ∨ i = 3 then 9 else if i = 8 ∨ i = 10 ∨ i = 11 then 2 else if i = 22 then 6 else if i = 26 ∨ i = 33 then 8 else if i = 29 ∨ i = 30 ∨ i = 31 ∨ i = 32 ∨ i = 35 then 7 else if i = 49 ∨ i = 50 ∨ i = 51 ∨ i = 52 then 3 else if i = 61 ∨ i = 62 then 4 else 0) = 8 := hai
          clear hai
          (repeat' split at hq) <;> omega
        rw [h2i i (by omega) (by omega) (by omega) (by omega) (by omega), hi 117 (by omega)]
      · have n135 : ¬ a = 135 := fun z => by
          subst z
          have q : (0 : Nat) = 8 := hai
          omega
        have n130 : ¬ (130 ≤ a ∧ a ≤ 133) := fun z => by have q := obc_sp2 a i z; omega
        rw [h2c a p1 n130 n135]
        by_cases p2 : 32 ≤ a ∧ a ≤ 38
        · rw [h3c a p2]
        · have z0 : ¬ a = 0 := fun z => by subst z; have q : (if i = 11 then 6 else 0) = 8 := hai; split at q <;> omega
          have z2 : ¬ a = 2 := fun z => by subst z; have q : (if i = 1 ∨ i = 8 ∨ i = 9 then 2 else 0) = 8 := hai; split at q <;> omega
          rw [h1c a z0 z2 p2 (fun z => by have q := obc_sp a i (by omega); omega)]
    · rw [h2c 200 (by decide) (by omega) (by decide), hi 200 (by decide)]
    · rw [h2c 201 (by decide) (by omega) (by decide), hi 201 (by decide)]
    · exact nB_cg (fun j hj => by rw [h2c 122 (by decide) (by omega) (by decide), hi 122 (by decide)]) z
  | inr t =>
    obtain ⟨rfl, f, f2, X, f8, f9, I, en, C, e1⟩ := hx
    obtain ⟨rfl, hs40, hsp, g2, M2, Mr, C2⟩ := hm
    obtain ⟨i1, i2, i3, i4, i5⟩ := I
    rw [en] at i5 i2
    have h1c : ∀ c : Nat, ¬ c = 0 → ¬ c = 2 → ¬ (32 ≤ c ∧ c ≤ 38) → ¬ (40 ≤ c ∧ c ≤ 47) → h1 c = h c := fun c c1 c2 c4 c3 => by rw [← e1, zup_off c1, C.1 c (by omega), zup_off c2, X.1 c c2 c3, xOp_c c2]
    have h10 : ∀ i : Nat, ¬ i = 0 → h1 0 i = h 0 i := fun i hi => by rw [← e1, zup_ne (by omega), C.1 0 (by omega), zup_off (by decide), X.1 0 (by decide) (by omega), xOp_c (by decide)]
    have h2c : ∀ c : Nat, ¬ c = 117 → ¬ (126 ≤ c ∧ c ≤ 135) → h2 c = h1 c := fun c c1 c2 => by rw [C2.1 c (by omega) (by omega), zup_off c1, zup_off c1, zup_off c1, zup_off c1, M2.1 c c1 (by omega) (by omega), og c c1]
    have h27 : ∀ i : Nat, h2 117 i = zup (zup (zup (zup g2 117 10 0) 117 11 (-1)) 117 26 (t.2.1 : Int)) 117 33 t.2.2.2.2.1 117 i := fun i => by rw [C2.1 117 (by omega) (by omega)]
    have h2i : ∀ i : Nat, ¬ i = 10 → ¬ i = 11 → ¬ i = 26 → ¬ i = 33 → h2 117 i = g2 117 i := fun i a b c d => by rw [h27, zup_ne (by omega), zup_ne (by omega), zup_ne (by omega), zup_ne (by omega)]
    have E := exR h1c h10 (fun c c1 c2 => h2c c c1 c2) (fun i i0 i1 i2 i5 i6 i3 i4 => by rw [h2i i (by omega) (by omega) i5 i6, M2.2 i (by omega) i3 i4, oi i i0 i1 (by omega) (by omega) (by omega)])
    have s0 : h2 0 0 = 0 := by rw [h2c 0 (by decide) (by omega), ← e1, zup_at]
    have s7 : h2 117 0 = 0 := by rw [h2i 0 (by decide) (by decide) (by decide) (by decide), M2.2 0 (by decide) (by decide) (by decide), o0]
    refine ⟨rfl, Rel.exL E (by rw [s0, s7]) H (by simp) (fun _ => ?_) (by simp) (by simp) (by simp) (by simp) (by simp) (fun _ => ?_) (by simp), ?_, ?_, fun z => ?_⟩
    · have a8 : h2 117 8 = 0 := by rw [h2i 8 (by decide) (by decide) (by decide) (by decide), M2.2 8 (by decide) (by decide) (by decide), O.2.2.1]
      have a10 : h2 117 10 = 0 := by rw [h27, zup_ne (by decide), zup_ne (by decide), zup_ne (by decide), zup_at]
      have a11 : h2 117 11 = -1 := by rw [h27, zup_ne (by decide), zup_ne (by decide), zup_at]
      have b2 : ∀ i : Nat, h2 2 i = zup f 2 1 0 2 i := fun i => by rw [h2c 2 (by decide) (by omega), ← e1, zup_off (by decide), C.1 2 (by omega)]
      unfold rTape
      rw [a8, a10, a11, b2 1, b2 8, b2 9, zup_at, zup_ne (by decide), zup_ne (by decide), f8, f9]
      exact ⟨rfl, by omega, by omega, fun i hi => by omega, rfl, rfl⟩
    · have x32 : ∀ c i : Nat, 32 ≤ c ∧ c ≤ 38 → h2 c i = f2 c i := fun c i hc => by rw [h2c c (by omega) (by omega), ← e1, zup_off (by omega)]
      have zf : ∀ c : Nat, ¬ c = 2 → zup f 2 1 0 c = f c := fun c hc => zup_off hc
      refine ⟨t.2.1, t.2.2.1, ?_, hs40, ?_, ?_, by have := i2.2.1; rw [List.length_nil] at this; omega, ?_, ?_, ?_⟩
      · rw [h27, zup_ne (by decide), zup_at]
      · rw [x32 32 1 (by omega), C.2.2.1, zf 40 (by decide)]; exact i1.2.1
      · rw [x32 32 0 (by omega), C.2.1, zf 40 (by decide)]; exact i1.1
      · rw [x32 32 2 (by omega), C.2.2.2.1, zf 40 (by decide), i1.2.2.1, h27, zup_at]
      · rw [h27, zup_at]; exact hsp
      · have i5b : blk (mx f t.2.2.2.2.2) 40 3 0 t.2.1 0 t.2.2.1 := i5
        have n80 : t.2.2.1 ≤ 80 := by have := i2.2.1; rw [List.length_nil] at this; omega
        refine blk_cg2 _ _ _ _ _ _ (fun j _ hj => ?_) (fun i _ hi => ?_) i5b
        · have q := C2.2 j hj
          have z4 : ∀ c : Nat, ¬ c = 117 → zup (zup (zup (zup g2 117 10 0) 117 11 (-1)) 117 26 (t.2.1 : Int)) 117 33 t.2.2.2.2.1 c = g2 c := fun c hc => by rw [zup_off hc, zup_off hc, zup_off hc, zup_off hc]
          rw [z4 130 (by decide), z4 131 (by decide), z4 132 (by decide), z4 133 (by decide), z4 135 (by decide), Mr.1, Mr.2.1, Mr.2.2.1, Mr.2.2.2.1, Mr.2.2.2.2] at q
          unfold rwE
          rw [mx_A (c := 126) (by omega), mx_A (c := 127) (by omega), mx_A (c := 128) (by omega), mx_A (c := 129) (by omega), mx_A (c := 134) (by omega)]
          exact q
        · refine ⟨?_, ?_, ?_, ?_, ?_, ?_⟩
          · rw [x32 33 i (by omega), C.2.2.2.2.1 i (by omega), zf 41 (by decide)]; rfl
          · rw [x32 34 i (by omega), C.2.2.2.2.2.1 i (by omega), zf 42 (by decide)]; rfl
          · rw [x32 35 i (by omega), C.2.2.2.2.2.2.1 i (by omega), zf 43 (by decide)]; rfl
          · rw [x32 36 i (by omega), C.2.2.2.2.2.2.2.1 i (by omega), zf 44 (by decide)]; rfl
          · rw [x32 37 i (by omega), C.2.2.2.2.2.2.2.2.1 i (by omega), zf 45 (by decide)]; rfl
          · rw [x32 38 i (by omega), C.2.2.2.2.2.2.2.2.2 i (by omega), zf 46 (by decide)]; rfl
    · rw [h2c 200 (by decide) (by omega), hi 200 (by decide)]
    · rw [h2c 201 (by decide) (by omega), hi 201 (by decide)]
    · exact nB_cg (fun j hj => by rw [h2c 122 (by decide) (by omega), hi 122 (by decide)]) z
