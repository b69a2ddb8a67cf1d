-- the class reads acts: words and numbers of a step (written by wip/tools/specK4b.py)
def agI (kd : Int) (nd j : Nat) (g A : zHp) : Prop := (kd < 2 → g 44 nd = A 134 j) ∧ ((kd = 2 ∨ kd = 3) → g 42 nd = A 127 j ∧ 0 ≤ A 127 j ∧ A 127 j ≤ 19 ∧ g 43 nd = A 128 j ∧ 0 ≤ A 128 j ∧ A 128 j ≤ 99) ∧ (kd = 4 → g 42 nd = A 127 j ∧ 0 ≤ A 127 j ∧ A 127 j ≤ 999) ∧ (kd = 5 → g 42 nd = A 127 j ∧ 1 ≤ A 127 j ∧ A 127 j ≤ 9) ∧ (6 ≤ kd → g 44 nd = A 134 j ∧ g 45 nd = A 127 j ∧ (A 127 j = 0 ∨ A 127 j = 1))
/-- the class after the words and numbers of a step -/
def xAr (h0 h : zHp) (B : Nat → Int) (L nd j q : Nat) (A : zHp) (kd : Int) (R : Ra) (v : Int) (g : zHp) : Prop := match R with
  | .inl e => (0 : Int) = v ∧ xXs 40 47 h0 e.1 e.2 g
  | .inr r => (1 : Int) = v ∧ q ≤ r.1 ∧ r.1 ≤ L ∧ g 2 3 = (r.1 : Int) ∧ xTs 40 47 h0 B L g ∧ (∀ c : Nat, ¬ c = 2 → ¬ (42 ≤ c ∧ c ≤ 45) → g c = h c) ∧ (∀ c i : Nat, 42 ≤ c ∧ c ≤ 45 → ¬ i = nd → g c i = h c i) ∧ (∀ c i : Nat, ¬ (i = j ∧ (c = 127 ∨ c = 128 ∨ c = 134)) → r.2 c i = A c i) ∧ agI kd nd j g r.2
theorem xAr01 {h0 h g : zHp} {B : Nat → Int} {L nd j q : Nat} {A : zHp} {kd : Int} {R : Ra} {v : Int} (H : xAr h0 h B L nd j q A kd R v g) : v = 0 ∨ v = 1 := by
  cases R with
  | inl e => exact Or.inl H.1.symm
  | inr s => exact Or.inr H.1.symm
theorem x_kindAt (h : zHp) (B : Nat → Int) (L : Nat) (hB : xB h B L) (q : Nat) (hq : q ≤ L) (T : xTk B L q h) : zCi mX0_kindAt 5 [zA 2] h (fun v h' => kdS B L q = v ∧ h = h') := by
  refine z_enter [zA 2] (by decide +kernel) (Nat.le_of_ble_eq_true rfl) rfl (fun hra hrg => ?_)
  refine z_al0 eX0_kindAt_0 ?_
  refine z_ldcS eX0_kindAt_1 sX0_92 ?_
  refine zc_vi1 eX0_kindAt_3 lX0_70 tX9_at zs2 (by decide) (Nat.le_of_ble_eq_true rfl) (x_at _ B L hB q hq T 14 (by decide)) ?_
  rintro _ _ ⟨rfl, rfl⟩ -
  refine z_ieq eX0_kindAt_6 rfl (fun c6 => ?_) (fun c6 => ?_)
  · have z6 := iteF c6
    refine z_al0 eX0_kindAt_11 ?_
    refine z_ldcS eX0_kindAt_12 sX0_94 ?_
    refine zc_vi1 eX0_kindAt_14 lX0_70 tX9_at zs2 (by decide) (Nat.le_of_ble_eq_true rfl) (x_at _ B L hB q hq T 15 (by decide)) ?_
    rintro _ _ ⟨rfl, rfl⟩ -
    refine z_ieq eX0_kindAt_17 rfl (fun c17 => ?_) (fun c17 => ?_)
    · have z17 := iteF c17
      refine z_al0 eX0_kindAt_22 ?_
      refine z_ldcS eX0_kindAt_23 sX0_96 ?_
      refine zc_vi1 eX0_kindAt_25 lX0_70 tX9_at zs2 (by decide) (Nat.le_of_ble_eq_true rfl) (x_at _ B L hB q hq T 16 (by decide)) ?_
      rintro _ _ ⟨rfl, rfl⟩ -
      refine z_ieq eX0_kindAt_28 rfl (fun c28 => ?_) (fun c28 => ?_)
      · have z28 := iteF c28
        refine z_al0 eX0_kindAt_33 ?_
        refine z_ldcS eX0_kindAt_34 sX0_98 ?_
        refine zc_vi1 eX0_kindAt_36 lX0_70 tX9_at zs2 (by decide) (Nat.le_of_ble_eq_true rfl) (x_at _ B L hB q hq T 4 (by decide)) ?_
        rintro _ _ ⟨rfl, rfl⟩ -
        refine z_ieq eX0_kindAt_39 rfl (fun c39 => ?_) (fun c39 => ?_)
        · have z39 := iteF c39
          refine z_al0 eX0_kindAt_44 ?_
          refine z_ldcS eX0_kindAt_45 sX0_100 ?_
          refine zc_vi1 eX0_kindAt_47 lX0_70 tX9_at zs2 (by decide) (Nat.le_of_ble_eq_true rfl) (x_at _ B L hB q hq T 17 (by decide)) ?_
          rintro _ _ ⟨rfl, rfl⟩ -
          refine z_ieq eX0_kindAt_50 rfl (fun c50 => ?_) (fun c50 => ?_)
          · have z50 := iteF c50
            refine z_al0 eX0_kindAt_55 ?_
            refine z_ldcS eX0_kindAt_56 sX0_102 ?_
            refine zc_vi1 eX0_kindAt_58 lX0_70 tX9_at zs2 (by decide) (Nat.le_of_ble_eq_true rfl) (x_at _ B L hB q hq T 18 (by decide)) ?_
            rintro _ _ ⟨rfl, rfl⟩ -
            refine z_ieq eX0_kindAt_61 rfl (fun c61 => ?_) (fun c61 => ?_)
            · have z61 := iteF c61
              refine z_al0 eX0_kindAt_66 ?_
              refine z_ldcS eX0_kindAt_67 sX0_104 ?_
              refine zc_vi1 eX0_kindAt_69 lX0_70 tX9_at zs2 (by decide) (Nat.le_of_ble_eq_true rfl) (x_at _ B L hB q hq T 19 (by decide)) ?_
              rintro _ _ ⟨rfl, rfl⟩ -
              refine z_ieq eX0_kindAt_72 rfl (fun c72 => ?_) (fun c72 => ?_)
              · have z72 := iteF c72
                refine z_al0 eX0_kindAt_78 ?_
                refine z_ldcS eX0_kindAt_79 sX0_106 ?_
                refine zc_vi1 eX0_kindAt_81 lX0_70 tX9_at zs2 (by decide) (Nat.le_of_ble_eq_true rfl) (x_at _ B L hB q hq T 20 (by decide)) ?_
                rintro _ _ ⟨rfl, rfl⟩ -
                refine z_ieq eX0_kindAt_84 rfl (fun c84 => ?_) (fun c84 => ?_)
                · have z84 := iteF c84
                  refine z_ki eX0_kindAt_92 ?_
                  refine ze_i eX0_kindAt_93 rfl ?_
                  refine ⟨?_, rfl⟩
                  unfold kdS
                  rw [if_neg z6, if_neg z17, if_neg z28, if_neg z39, if_neg z50, if_neg z61, if_neg z72, if_neg z84]
                · have z84 := iteT c84
                  refine z_ki eX0_kindAt_87 ?_
                  refine z_goto eX0_kindAt_89 rfl ?_
                  refine ze_i eX0_kindAt_93 rfl ?_
                  refine ⟨?_, rfl⟩
                  unfold kdS
                  rw [if_neg z6, if_neg z17, if_neg z28, if_neg z39, if_neg z50, if_neg z61, if_neg z72, if_pos z84]
              · have z72 := iteT c72
                refine z_ki eX0_kindAt_75 ?_
                refine ze_i eX0_kindAt_77 rfl ?_
                refine ⟨?_, rfl⟩
                unfold kdS
                rw [if_neg z6, if_neg z17, if_neg z28, if_neg z39, if_neg z50, if_neg z61, if_pos z72]
            · have z61 := iteT c61
              refine z_ki eX0_kindAt_64 ?_
              refine ze_i eX0_kindAt_65 rfl ?_
              refine ⟨?_, rfl⟩
              unfold kdS
              rw [if_neg z6, if_neg z17, if_neg z28, if_neg z39, if_neg z50, if_pos z61]
          · have z50 := iteT c50
            refine z_ki eX0_kindAt_53 ?_
            refine ze_i eX0_kindAt_54 rfl ?_
            refine ⟨?_, rfl⟩
            unfold kdS
            rw [if_neg z6, if_neg z17, if_neg z28, if_neg z39, if_pos z50]
        · have z39 := iteT c39
          refine z_ki eX0_kindAt_42 ?_
          refine ze_i eX0_kindAt_43 rfl ?_
          refine ⟨?_, rfl⟩
          unfold kdS
          rw [if_neg z6, if_neg z17, if_neg z28, if_pos z39]
      · have z28 := iteT c28
        refine z_ki eX0_kindAt_31 ?_
        refine ze_i eX0_kindAt_32 rfl ?_
        refine ⟨?_, rfl⟩
        unfold kdS
        rw [if_neg z6, if_neg z17, if_pos z28]
    · have z17 := iteT c17
      refine z_ki eX0_kindAt_20 ?_
      refine ze_i eX0_kindAt_21 rfl ?_
      refine ⟨?_, rfl⟩
      unfold kdS
      rw [if_neg z6, if_pos z17]
  · have z6 := iteT c6
    refine z_ki eX0_kindAt_9 ?_
    refine ze_i eX0_kindAt_10 rfl ?_
    refine ⟨?_, rfl⟩
    unfold kdS
    rw [if_pos z6]
theorem x_number (h0 h : zHp) (B : Nat → Int) (L q nd j : Nat) (A : zHp) (S : xTs 40 47 h0 B L h) (e3 : h 2 3 = (q : Int)) (hq : q ≤ L) (hnd : nd < 80) (kd lo hi : Int) (hk : kd = 4 ∧ lo = 0 ∧ hi = 999 ∨ kd = 5 ∧ lo = 1 ∧ hi = 9) : zCi mX0_readNumber 3 [zA 40, zA 2, zI nd, zI lo, zI hi] h (fun v h' => xAr h0 h B L nd j q A kd (nuF1 B L j q lo hi A) v h') := by
  refine z_enter [zA 40, zA 2, zI nd, zI lo, zI hi] (by decide +kernel) (Nat.le_of_ble_eq_true rfl) rfl (fun hra hrg => ?_)
  have kb := tk_b (B := B) hq
  refine z_al1 eX0_readNumber_0 ?_
  refine zc_vv0 eX0_readNumber_1 lX0_55 tX9_advance zs2 (by decide) (Nat.le_of_ble_eq_true rfl) (x_adv h B L S.2.1 q hq e3) ?_
  rintro g1 ⟨F1, T1⟩
  have S1 := S.fr F1
  refine z_al1 eX0_readNumber_4 ?_
  refine z_il3 eX0_readNumber_5 ?_
  refine z_il4 eX0_readNumber_6 ?_
  refine zc_vi2 eX0_readNumber_8 lX0_120 tX9_isNumber zs2 (by decide) (Nat.le_of_ble_eq_true rfl) (x_isNumber _ B L q T1 _ _) ?_
  rintro v1 g2 ⟨p1, p2⟩ -
  refine z_ine eX0_readNumber_11 rfl (fun c11 => ?_) (fun c11 => ?_)
  · have z9 : nuK B L q lo hi = 0 := by
      by_cases z : nuK B L q lo hi = 0
      · exact z
      · exact absurd (p2 z).1.symm c11
    obtain ⟨-, rfl⟩ := p1 z9
    have k2 := nuK_b.2.1 z9
    refine z_al0 eX0_readNumber_16 ?_
    refine z_ga eX0_readNumber_17 fX0_15 zs40 (t := 42) rfl ?_
    refine z_il2 eX0_readNumber_20 ?_
    refine z_al1 eX0_readNumber_21 ?_
    refine z_gi eX0_readNumber_22 fX0_124 zs2 ?_
    rw [T1.2.2.2.1 k2.1]
    refine zs_iN eX0_readNumber_25 zs42 (j := nd) (by omega) (by omega) ?_
    refine z_ki eX0_readNumber_26 ?_
    refine ze_z eX0_readNumber_27 rfl (by first | exact Or.inl rfl | exact Or.inr rfl) ?_
    have e : nuF1 B L j q lo hi A = .inr (tkE B L q, zup A 127 j (tkV B L q)) := if_pos z9
    rw [e]
    refine ⟨rfl, by show q ≤ tkE B L q; omega, kb.2.2.1, ?_, S1.up (c := 42) (by decide) (by decide) _ _, fun c c1 c2 => ?_, fun c i c1 c2 => ?_, fun c i c1 => zup_ne (by omega), ?_⟩
    · show zup g1 42 nd (tkV B L q) 2 3 = (tkE B L q : Int)
      rw [zup_off (by decide)]; exact T1.2.2.2.2 (by omega)
    · rw [zup_off (by omega)]; exact F1.1 c c1
    · rw [zup_ne (by omega), F1.1 c (by omega)]
    · show agI kd nd j (zup g1 42 nd (tkV B L q)) (zup A 127 j (tkV B L q))
      unfold agI
      rw [zup_at, zup_at]
      refine ⟨fun z => by omega, fun z => by omega, fun z => ⟨rfl, by omega, by omega⟩, fun z => ⟨rfl, by omega, by omega⟩, fun z => by omega⟩
  · have z9 : ¬ nuK B L q lo hi = 0 := fun z => by have := (p1 z).1; omega
    obtain ⟨-, rfl⟩ := p2 z9
    refine z_ki eX0_readNumber_14 ?_
    refine ze_z eX0_readNumber_15 rfl (by first | exact Or.inl rfl | exact Or.inr rfl) ?_
    have e : nuF1 B L j q lo hi A = .inl (nuK B L q lo hi, tkA B L q) := if_neg z9
    rw [e]
    exact ⟨rfl, S1.bad _ _⟩
theorem x_move (h0 h : zHp) (B : Nat → Int) (L q nd j : Nat) (A : zHp) (S : xTs 40 47 h0 B L h) (e3 : h 2 3 = (q : Int)) (hq : q ≤ L) (hnd : nd < 80) (kd : Int) (hk : kd = 2 ∨ kd = 3) : zCi mX0_readMove 3 [zA 40, zA 2, zI nd] h (fun v h' => xAr h0 h B L nd j q A kd (moF B L j q A) v h') := by
  refine z_enter [zA 40, zA 2, zI nd] (by decide +kernel) (Nat.le_of_ble_eq_true rfl) rfl (fun hra hrg => ?_)
  have kb := tk_b (B := B) hq
  refine z_al1 eX0_readMove_0 ?_
  refine zc_vv0 eX0_readMove_1 lX0_55 tX9_advance zs2 (by decide) (Nat.le_of_ble_eq_true rfl) (x_adv h B L S.2.1 q hq e3) ?_
  rintro g1 ⟨F1, T1⟩
  have S1 := S.fr F1
  refine z_al1 eX0_readMove_4 ?_
  refine z_ki eX0_readMove_5 ?_
  refine z_ki eX0_readMove_6 ?_
  refine zc_vi2 eX0_readMove_8 lX0_120 tX9_isNumber zs2 (by decide) (Nat.le_of_ble_eq_true rfl) (x_isNumber _ B L q T1 _ _) ?_
  rintro v1 g2 ⟨p1, p2⟩ -
  refine z_ine eX0_readMove_11 rfl (fun c11 => ?_) (fun c11 => ?_)
  · have z8 : nuK B L q 0 19 = 0 := by
      by_cases z : nuK B L q 0 19 = 0
      · exact z
      · exact absurd (p2 z).1.symm c11
    obtain ⟨-, rfl⟩ := p1 z8
    have k1 := nuK_b.2.1 z8
    clear p1 p2
    refine z_al0 eX0_readMove_16 ?_
    refine z_ga eX0_readMove_17 fX0_15 zs40 (t := 42) rfl ?_
    refine z_il2 eX0_readMove_20 ?_
    refine z_al1 eX0_readMove_21 ?_
    refine z_gi eX0_readMove_22 fX0_124 zs2 ?_
    rw [T1.2.2.2.1 k1.1]
    refine zs_iN eX0_readMove_25 zs42 (j := nd) (by omega) (by omega) ?_
    have S2 := S1.up (c := 42) (by decide) (by decide) nd (tkV B L q)
    have e32 : zup g1 42 nd (tkV B L q) 2 3 = ((tkE B L q : Nat) : Int) := by rw [zup_off (by decide)]; exact T1.2.2.2.2 (by omega)
    have kb1 := tk_b (B := B) kb.2.2.1
    refine z_al1 eX0_readMove_26 ?_
    refine zc_vv0 eX0_readMove_27 lX0_55 tX9_advance zs2 (by decide) (Nat.le_of_ble_eq_true rfl) (x_adv _ B L S2.2.1 _ kb.2.2.1 e32) ?_
    rintro g3 ⟨F3, T3⟩
    have S3 := S2.fr F3
    refine z_al1 eX0_readMove_30 ?_
    refine z_ki eX0_readMove_31 ?_
    refine z_ki eX0_readMove_32 ?_
    refine zc_vi2 eX0_readMove_34 lX0_120 tX9_isNumber zs2 (by decide) (Nat.le_of_ble_eq_true rfl) (x_isNumber _ B L _ T3 _ _) ?_
    rintro v1 g4 ⟨p1, p2⟩ -
    refine z_ine eX0_readMove_37 rfl (fun c37 => ?_) (fun c37 => ?_)
    · have z9 : nuK B L (tkE B L q) 0 99 = 0 := by
        by_cases z : nuK B L (tkE B L q) 0 99 = 0
        · exact z
        · exact absurd (p2 z).1.symm c37
      obtain ⟨-, rfl⟩ := p1 z9
      have k2 := nuK_b.2.1 z9
      refine z_al0 eX0_readMove_42 ?_
      refine z_ga eX0_readMove_43 fX0_18 zs40 (t := 43) rfl ?_
      refine z_il2 eX0_readMove_46 ?_
      refine z_al1 eX0_readMove_47 ?_
      refine z_gi eX0_readMove_48 fX0_124 zs2 ?_
      rw [T3.2.2.2.1 k2.1]
      refine zs_iN eX0_readMove_51 zs43 (j := nd) (by omega) (by omega) ?_
      refine z_ki eX0_readMove_52 ?_
      refine ze_z eX0_readMove_53 rfl (by first | exact Or.inl rfl | exact Or.inr rfl) ?_
      have e : moF B L j q A = .inr (tkE B L (tkE B L q), zup (zup A 127 j (tkV B L q)) 128 j (tkV B L (tkE B L q))) := by unfold moF; rw [if_pos z8, if_pos z9]
      rw [e]
      refine ⟨rfl, by show q ≤ tkE B L (tkE B L q); omega, kb1.2.2.1, ?_, S3.up (c := 43) (by decide) (by decide) _ _, fun c c1 c2 => ?_, fun c i c1 c2 => ?_, fun c i c1 => ?_, ?_⟩
      · show zup g3 43 nd (tkV B L (tkE B L q)) 2 3 = (tkE B L (tkE B L q) : Int)
        rw [zup_off (by decide)]; exact T3.2.2.2.2 (by omega)
      · rw [zup_off (by omega), F3.1 c c1, zup_off (by omega)]; exact F1.1 c c1
      · rw [zup_ne (by omega), F3.1 c (by omega), zup_ne (by omega), F1.1 c (by omega)]
      · show zup (zup A 127 j (tkV B L q)) 128 j (tkV B L (tkE B L q)) c i = A c i
        rw [zup_ne (by omega), zup_ne (by omega)]
      · unfold agI
        have e1 : zup g3 43 nd (tkV B L (tkE B L q)) 42 nd = tkV B L q := by rw [zup_off (by decide), F3.1 42 (by decide), zup_at]
        have e2 : zup (zup A 127 j (tkV B L q)) 128 j (tkV B L (tkE B L q)) 127 j = tkV B L q := by rw [zup_off (by decide), zup_at]
        show (kd < 2 → _) ∧ ((kd = 2 ∨ kd = 3) → zup g3 43 nd (tkV B L (tkE B L q)) 42 nd = zup (zup A 127 j (tkV B L q)) 128 j (tkV B L (tkE B L q)) 127 j ∧ 0 ≤ zup (zup A 127 j (tkV B L q)) 128 j (tkV B L (tkE B L q)) 127 j ∧ zup (zup A 127 j (tkV B L q)) 128 j (tkV B L (tkE B L q)) 127 j ≤ 19 ∧ zup g3 43 nd (tkV B L (tkE B L q)) 43 nd = zup (zup A 127 j (tkV B L q)) 128 j (tkV B L (tkE B L q)) 128 j ∧ 0 ≤ zup (zup A 127 j (tkV B L q)) 128 j (tkV B L (tkE B L q)) 128 j ∧ zup (zup A 127 j (tkV B L q)) 128 j (tkV B L (tkE B L q)) 128 j ≤ 99) ∧ _
        rw [e1, e2, zup_at, zup_at]
        exact ⟨fun z => by omega, fun _ => ⟨rfl, by omega, by omega, rfl, by omega, by omega⟩, fun z => by omega, fun z => by omega, fun z => by omega⟩
    · have z9 : ¬ nuK B L (tkE B L q) 0 99 = 0 := fun z => by have := (p1 z).1; omega
      obtain ⟨-, rfl⟩ := p2 z9
      refine z_ki eX0_readMove_40 ?_
      refine ze_z eX0_readMove_41 rfl (by first | exact Or.inl rfl | exact Or.inr rfl) ?_
      have e : moF B L j q A = .inl (nuK B L (tkE B L q) 0 99, tkA B L (tkE B L q)) := by unfold moF; rw [if_pos z8, if_neg z9]
      rw [e]
      exact ⟨rfl, S3.bad _ _⟩
  · have z9 : ¬ nuK B L q 0 19 = 0 := fun z => by have := (p1 z).1; omega
    obtain ⟨-, rfl⟩ := p2 z9
    refine z_ki eX0_readMove_14 ?_
    refine ze_z eX0_readMove_15 rfl (by first | exact Or.inl rfl | exact Or.inr rfl) ?_
    have e : moF B L j q A = .inl (nuK B L q 0 19, tkA B L q) := if_neg z9
    rw [e]
    exact ⟨rfl, S1.bad _ _⟩
theorem x_who (h0 h : zHp) (B : Nat → Int) (L q nd j : Nat) (A : zHp) (S : xTs 40 47 h0 B L h) (e3 : h 2 3 = (q : Int)) (hq : q ≤ L) (hnd : nd < 80) (kd x : Int) (hx : x = 0 ∧ kd < 2 ∨ x = 1 ∧ 6 ≤ kd) : zCi mX0_readWho 6 [zA 40, zA 2, zI nd, zI x] h (fun v h' => xAr h0 h B L nd j q A kd (whF B L j q x A) v h') := by
  refine z_enter [zA 40, zA 2, zI nd, zI x, zU] (by decide +kernel) (Nat.le_of_ble_eq_true rfl) rfl (fun hra hrg => ?_)
  have kq : q ≤ tkE B L q ∧ tkE B L q ≤ L := ⟨by have := tk_b (B := B) hq; omega, (tk_b hq).2.2.1⟩
  refine z_al1 eX0_readWho_0 ?_
  refine zc_vv0 eX0_readWho_1 lX0_55 tX9_advance zs2 (by decide) (Nat.le_of_ble_eq_true rfl) (x_adv h B L S.2.1 q hq e3) ?_
  rintro g1 ⟨F1, T1⟩
  have S1 := S.fr F1
  refine z_al0 eX0_readWho_4 ?_
  refine z_ga eX0_readWho_5 fX0_25 zs40 (t := 45) rfl ?_
  refine z_il2 eX0_readWho_8 ?_
  refine z_il3 eX0_readWho_9 ?_
  refine z_ieq eX0_readWho_10 rfl (fun c10 => ?_) (fun c10 => ?_)
  · have x0 : ¬ x = 1 := by omega
    refine z_ki eX0_readWho_26 ?_
    refine zs_zN eX0_readWho_27 zs45 (j := nd) (by omega) (by omega) (by first | exact Or.inl rfl | exact Or.inr rfl) ?_
    have S2 := S1.up (c := 45) (by decide) (by decide) nd 0
    have T2 := T1.up (c := 45) (by decide) nd 0
    refine z_al0 eX0_readWho_28 ?_
    refine z_ga eX0_readWho_29 fX0_25 zs40 (t := 45) rfl ?_
    refine z_il2 eX0_readWho_32 ?_
    refine zr_zN eX0_readWho_33 zs45 (j := nd) (by omega) (by omega) ?_
    rw [zup_at]
    refine z_ieq eX0_readWho_34 rfl (fun c34 => ?_) (fun c34 => ?_)
    · have S4 := S2
      have T4 := T2
      have hq4 := hq
      have k4 := kq
      refine z_al1 eX0_readWho_41 ?_
      refine z_ldcS eX0_readWho_42 sX0_127 ?_
      refine zc_vi1 eX0_readWho_44 lX0_70 tX9_at zs2 (by decide) (Nat.le_of_ble_eq_true rfl) (x_at _ B L S4.2.1 _ hq4 T4 21 (by decide)) ?_
      rintro _ _ ⟨rfl, rfl⟩ -
      refine z_ine eX0_readWho_47 rfl (fun c47 => ?_) (fun c47 => ?_)
      · have z47 := iteT c47
        clear c47
        refine z_ki eX0_readWho_67 ?_
        refine z_goto eX0_readWho_68 rfl ?_
        refine z_is4 eX0_readWho_72 zn0 ?_
        refine z_il4 eX0_readWho_74 ?_
        refine z_ine eX0_readWho_76 rfl (fun c76 => ?_) (fun c76 => ?_)
        · refine z_al1 eX0_readWho_86 ?_
          refine z_ki eX0_readWho_87 ?_
          refine zc_vi1 eX0_readWho_88 lX0_64 tX9_refuse zs2 (by decide) (Nat.le_of_ble_eq_true rfl) (x_ref T4 _) ?_
          rintro _ _ ⟨rfl, rfl⟩ -
          refine ze_z eX0_readWho_91 rfl (by first | exact Or.inl rfl | exact Or.inr rfl) ?_
          have eW : whF B L j q x A = wh1 B L j q 0 A := if_neg (fun y => x0 y.1)
          have za : ¬ acQ B L q := fun za => za.2.2.2.1 z47.2
          have e2 : wh1 B L j q 0 A = .inl (fK (tkK B L q) 2, tkA B L q) := by unfold wh1; rw [if_neg za]
          rw [eW, e2]
          exact ⟨rfl, S4.bad _ _⟩
        · exact absurd c76 (by decide)
      · have z47 := iteF c47
        clear c47
        refine z_al1 eX0_readWho_50 ?_
        refine z_ldcS eX0_readWho_51 sX0_68 ?_
        refine zc_vi1 eX0_readWho_53 lX0_70 tX9_at zs2 (by decide) (Nat.le_of_ble_eq_true rfl) (x_at _ B L S4.2.1 _ hq4 T4 13 (by decide)) ?_
        rintro _ _ ⟨rfl, rfl⟩ -
        refine z_ine eX0_readWho_56 rfl (fun c56 => ?_) (fun c56 => ?_)
        · have z56 := iteT c56
          clear c56
          refine z_ki eX0_readWho_67 ?_
          refine z_goto eX0_readWho_68 rfl ?_
          refine z_is4 eX0_readWho_72 zn0 ?_
          refine z_il4 eX0_readWho_74 ?_
          refine z_ine eX0_readWho_76 rfl (fun c76 => ?_) (fun c76 => ?_)
          · refine z_al1 eX0_readWho_86 ?_
            refine z_ki eX0_readWho_87 ?_
            refine zc_vi1 eX0_readWho_88 lX0_64 tX9_refuse zs2 (by decide) (Nat.le_of_ble_eq_true rfl) (x_ref T4 _) ?_
            rintro _ _ ⟨rfl, rfl⟩ -
            refine ze_z eX0_readWho_91 rfl (by first | exact Or.inl rfl | exact Or.inr rfl) ?_
            have eW : whF B L j q x A = wh1 B L j q 0 A := if_neg (fun y => x0 y.1)
            have za : ¬ acQ B L q := fun za => za.2.2.2.2 z56.2
            have e2 : wh1 B L j q 0 A = .inl (fK (tkK B L q) 2, tkA B L q) := by unfold wh1; rw [if_neg za]
            rw [eW, e2]
            exact ⟨rfl, S4.bad _ _⟩
          · exact absurd c76 (by decide)
        · have z56 := iteF c56
          clear c56
          refine z_al1 eX0_readWho_59 ?_
          refine zc_si1 eX0_readWho_60 lX0_84 tX0_kindAt (by decide) (Nat.le_of_ble_eq_true rfl) (x_kindAt _ B L S4.2.1 _ hq4 T4) ?_
          rintro _ _ ⟨rfl, rfl⟩ -
          refine z_ki eX0_readWho_63 ?_
          refine z_ceq eX0_readWho_64 rfl (fun c64 => ?_) (fun c64 => ?_)
          · refine z_ki eX0_readWho_71 ?_
            refine z_is4 eX0_readWho_72 zn0 ?_
            refine z_il4 eX0_readWho_74 ?_
            refine z_ine eX0_readWho_76 rfl (fun c76 => ?_) (fun c76 => ?_)
            · exact absurd rfl c76
            · refine z_al1 eX0_readWho_79 ?_
              refine zc_vi0 eX0_readWho_80 lX0_129 tX9_atShortWord zs2 (by decide) (Nat.le_of_ble_eq_true rfl) (x_atShort _ B L _ T4) ?_
              rintro _ _ ⟨rfl, rfl⟩ -
              refine z_ine eX0_readWho_83 rfl (fun c83 => ?_) (fun c83 => ?_)
              · have z83 := iteT c83
                clear c83
                refine z_al0 eX0_readWho_92 ?_
                refine z_ga eX0_readWho_93 fX0_21 zs40 (t := 44) rfl ?_
                refine z_il2 eX0_readWho_96 ?_
                refine z_al1 eX0_readWho_97 ?_
                refine z_gj eX0_readWho_98 fX0_132 zs2 ?_
                rw [T4.2.2.1 z83.1]
                refine zs_lN eX0_readWho_101 zs44 (j := nd) (by omega) (by omega) ?_
                refine z_ki eX0_readWho_102 ?_
                refine ze_z eX0_readWho_103 rfl (by first | exact Or.inl rfl | exact Or.inr rfl) ?_
                have eW : whF B L j q x A = wh1 B L j q 0 A := if_neg (fun y => x0 y.1)
                have za : acQ B L q := ⟨z83.1, z83.2, c64, fun y => z47 ⟨z83.1, y⟩, fun y => z56 ⟨z83.1, y⟩⟩
                have e2 : wh1 B L j q 0 A = .inr (tkE B L q, zup (zup A 127 j 0) 134 j (tkW B L q)) := by unfold wh1; rw [if_pos za]
                rw [eW, e2]
                refine ⟨rfl, by show q ≤ tkE B L q; omega, k4.2, ?_, S4.up (c := 44) (by decide) (by decide) _ _, fun c c1 c2 => ?_, fun c i c1 c2 => ?_, fun c i c1 => ?_, ?_⟩
                · show zup (zup g1 45 nd 0) 44 nd (tkW B L q) 2 3 = (tkE B L q : Int)
                  rw [zup_off (by decide)]; exact T4.2.2.2.2 (by rw [z83.1]; decide)
                · rw [zup_off (by omega), zup_off (by omega)]; exact F1.1 c c1
                · rw [zup_ne (by omega), zup_ne (by omega), F1.1 c (by omega)]
                · show zup (zup A 127 j 0) 134 j (tkW B L q) c i = A c i
                  rw [zup_ne (by omega), zup_ne (by omega)]
                · have e5 : zup (zup g1 45 nd 0) 44 nd (tkW B L q) 45 nd = 0 := by rw [zup_off (by decide), zup_at]
                  have e6 : zup (zup A 127 j 0) 134 j (tkW B L q) 127 j = 0 := by rw [zup_off (by decide), zup_at]
                  have e7 : zup (zup g1 45 nd 0) 44 nd (tkW B L q) 44 nd = zup (zup A 127 j 0) 134 j (tkW B L q) 134 j := by rw [zup_at, zup_at]
                  refine ⟨fun _ => e7, fun z => by omega, fun z => by omega, fun z => by omega, fun _ => ⟨e7, by rw [e5]; exact e6.symm, ?_⟩⟩
                  show zup (zup A 127 j 0) 134 j (tkW B L q) 127 j = 0 ∨ zup (zup A 127 j 0) 134 j (tkW B L q) 127 j = 1
                  rw [e6]
                  first | exact Or.inl rfl | exact Or.inr rfl
              · have z83 := iteF c83
                clear c83
                refine z_al1 eX0_readWho_86 ?_
                refine z_ki eX0_readWho_87 ?_
                refine zc_vi1 eX0_readWho_88 lX0_64 tX9_refuse zs2 (by decide) (Nat.le_of_ble_eq_true rfl) (x_ref T4 _) ?_
                rintro _ _ ⟨rfl, rfl⟩ -
                refine ze_z eX0_readWho_91 rfl (by first | exact Or.inl rfl | exact Or.inr rfl) ?_
                have eW : whF B L j q x A = wh1 B L j q 0 A := if_neg (fun y => x0 y.1)
                have za : ¬ acQ B L q := fun za => z83 ⟨za.1, za.2.1⟩
                have e2 : wh1 B L j q 0 A = .inl (fK (tkK B L q) 2, tkA B L q) := by unfold wh1; rw [if_neg za]
                rw [eW, e2]
                exact ⟨rfl, S4.bad _ _⟩
          · refine z_ki eX0_readWho_67 ?_
            refine z_goto eX0_readWho_68 rfl ?_
            refine z_is4 eX0_readWho_72 zn0 ?_
            refine z_il4 eX0_readWho_74 ?_
            refine z_ine eX0_readWho_76 rfl (fun c76 => ?_) (fun c76 => ?_)
            · refine z_al1 eX0_readWho_86 ?_
              refine z_ki eX0_readWho_87 ?_
              refine zc_vi1 eX0_readWho_88 lX0_64 tX9_refuse zs2 (by decide) (Nat.le_of_ble_eq_true rfl) (x_ref T4 _) ?_
              rintro _ _ ⟨rfl, rfl⟩ -
              refine ze_z eX0_readWho_91 rfl (by first | exact Or.inl rfl | exact Or.inr rfl) ?_
              have eW : whF B L j q x A = wh1 B L j q 0 A := if_neg (fun y => x0 y.1)
              have za : ¬ acQ B L q := fun za => c64 za.2.2.1
              have e2 : wh1 B L j q 0 A = .inl (fK (tkK B L q) 2, tkA B L q) := by unfold wh1; rw [if_neg za]
              rw [eW, e2]
              exact ⟨rfl, S4.bad _ _⟩
            · exact absurd c76 (by decide)
    · exact absurd rfl c34
  · have x1 : x = 1 ∧ 6 ≤ kd := by omega
    clear hx c10
    refine z_al1 eX0_readWho_13 ?_
    refine z_ldcS eX0_readWho_14 sX0_127 ?_
    refine zc_vi1 eX0_readWho_16 lX0_70 tX9_at zs2 (by decide) (Nat.le_of_ble_eq_true rfl) (x_at _ B L S1.2.1 q hq T1 21 (by decide)) ?_
    rintro _ _ ⟨rfl, rfl⟩ -
    refine z_ieq eX0_readWho_19 rfl (fun c19 => ?_) (fun c19 => ?_)
    · have z19 := iteF c19
      clear c19
      refine z_ki eX0_readWho_26 ?_
      refine zs_zN eX0_readWho_27 zs45 (j := nd) (by omega) (by omega) (by first | exact Or.inl rfl | exact Or.inr rfl) ?_
      have S2 := S1.up (c := 45) (by decide) (by decide) nd 0
      have T2 := T1.up (c := 45) (by decide) nd 0
      refine z_al0 eX0_readWho_28 ?_
      refine z_ga eX0_readWho_29 fX0_25 zs40 (t := 45) rfl ?_
      refine z_il2 eX0_readWho_32 ?_
      refine zr_zN eX0_readWho_33 zs45 (j := nd) (by omega) (by omega) ?_
      rw [zup_at]
      refine z_ieq eX0_readWho_34 rfl (fun c34 => ?_) (fun c34 => ?_)
      · have S4 := S2
        have T4 := T2
        have hq4 := hq
        have k4 := kq
        refine z_al1 eX0_readWho_41 ?_
        refine z_ldcS eX0_readWho_42 sX0_127 ?_
        refine zc_vi1 eX0_readWho_44 lX0_70 tX9_at zs2 (by decide) (Nat.le_of_ble_eq_true rfl) (x_at _ B L S4.2.1 _ hq4 T4 21 (by decide)) ?_
        rintro _ _ ⟨rfl, rfl⟩ -
        refine z_ine eX0_readWho_47 rfl (fun c47 => ?_) (fun c47 => ?_)
        · have z47 := iteT c47
          clear c47
          refine z_ki eX0_readWho_67 ?_
          refine z_goto eX0_readWho_68 rfl ?_
          refine z_is4 eX0_readWho_72 zn0 ?_
          refine z_il4 eX0_readWho_74 ?_
          refine z_ine eX0_readWho_76 rfl (fun c76 => ?_) (fun c76 => ?_)
          · refine z_al1 eX0_readWho_86 ?_
            refine z_ki eX0_readWho_87 ?_
            refine zc_vi1 eX0_readWho_88 lX0_64 tX9_refuse zs2 (by decide) (Nat.le_of_ble_eq_true rfl) (x_ref T4 _) ?_
            rintro _ _ ⟨rfl, rfl⟩ -
            refine ze_z eX0_readWho_91 rfl (by first | exact Or.inl rfl | exact Or.inr rfl) ?_
            have eW : whF B L j q x A = wh1 B L j q 0 A := if_neg (fun y => z19 y.2)
            have za : ¬ acQ B L q := fun za => za.2.2.2.1 z47.2
            have e2 : wh1 B L j q 0 A = .inl (fK (tkK B L q) 2, tkA B L q) := by unfold wh1; rw [if_neg za]
            rw [eW, e2]
            exact ⟨rfl, S4.bad _ _⟩
          · exact absurd c76 (by decide)
        · have z47 := iteF c47
          clear c47
          refine z_al1 eX0_readWho_50 ?_
          refine z_ldcS eX0_readWho_51 sX0_68 ?_
          refine zc_vi1 eX0_readWho_53 lX0_70 tX9_at zs2 (by decide) (Nat.le_of_ble_eq_true rfl) (x_at _ B L S4.2.1 _ hq4 T4 13 (by decide)) ?_
          rintro _ _ ⟨rfl, rfl⟩ -
          refine z_ine eX0_readWho_56 rfl (fun c56 => ?_) (fun c56 => ?_)
          · have z56 := iteT c56
            clear c56
            refine z_ki eX0_readWho_67 ?_
            refine z_goto eX0_readWho_68 rfl ?_
            refine z_is4 eX0_readWho_72 zn0 ?_
            refine z_il4 eX0_readWho_74 ?_
            refine z_ine eX0_readWho_76 rfl (fun c76 => ?_) (fun c76 => ?_)
            · refine z_al1 eX0_readWho_86 ?_
              refine z_ki eX0_readWho_87 ?_
              refine zc_vi1 eX0_readWho_88 lX0_64 tX9_refuse zs2 (by decide) (Nat.le_of_ble_eq_true rfl) (x_ref T4 _) ?_
              rintro _ _ ⟨rfl, rfl⟩ -
              refine ze_z eX0_readWho_91 rfl (by first | exact Or.inl rfl | exact Or.inr rfl) ?_
              have eW : whF B L j q x A = wh1 B L j q 0 A := if_neg (fun y => z19 y.2)
              have za : ¬ acQ B L q := fun za => za.2.2.2.2 z56.2
              have e2 : wh1 B L j q 0 A = .inl (fK (tkK B L q) 2, tkA B L q) := by unfold wh1; rw [if_neg za]
              rw [eW, e2]
              exact ⟨rfl, S4.bad _ _⟩
            · exact absurd c76 (by decide)
          · have z56 := iteF c56
            clear c56
            refine z_al1 eX0_readWho_59 ?_
            refine zc_si1 eX0_readWho_60 lX0_84 tX0_kindAt (by decide) (Nat.le_of_ble_eq_true rfl) (x_kindAt _ B L S4.2.1 _ hq4 T4) ?_
            rintro _ _ ⟨rfl, rfl⟩ -
            refine z_ki eX0_readWho_63 ?_
            refine z_ceq eX0_readWho_64 rfl (fun c64 => ?_) (fun c64 => ?_)
            · refine z_ki eX0_readWho_71 ?_
              refine z_is4 eX0_readWho_72 zn0 ?_
              refine z_il4 eX0_readWho_74 ?_
              refine z_ine eX0_readWho_76 rfl (fun c76 => ?_) (fun c76 => ?_)
              · exact absurd rfl c76
              · refine z_al1 eX0_readWho_79 ?_
                refine zc_vi0 eX0_readWho_80 lX0_129 tX9_atShortWord zs2 (by decide) (Nat.le_of_ble_eq_true rfl) (x_atShort _ B L _ T4) ?_
                rintro _ _ ⟨rfl, rfl⟩ -
                refine z_ine eX0_readWho_83 rfl (fun c83 => ?_) (fun c83 => ?_)
                · have z83 := iteT c83
                  clear c83
                  refine z_al0 eX0_readWho_92 ?_
                  refine z_ga eX0_readWho_93 fX0_21 zs40 (t := 44) rfl ?_
                  refine z_il2 eX0_readWho_96 ?_
                  refine z_al1 eX0_readWho_97 ?_
                  refine z_gj eX0_readWho_98 fX0_132 zs2 ?_
                  rw [T4.2.2.1 z83.1]
                  refine zs_lN eX0_readWho_101 zs44 (j := nd) (by omega) (by omega) ?_
                  refine z_ki eX0_readWho_102 ?_
                  refine ze_z eX0_readWho_103 rfl (by first | exact Or.inl rfl | exact Or.inr rfl) ?_
                  have eW : whF B L j q x A = wh1 B L j q 0 A := if_neg (fun y => z19 y.2)
                  have za : acQ B L q := ⟨z83.1, z83.2, c64, fun y => z47 ⟨z83.1, y⟩, fun y => z56 ⟨z83.1, y⟩⟩
                  have e2 : wh1 B L j q 0 A = .inr (tkE B L q, zup (zup A 127 j 0) 134 j (tkW B L q)) := by unfold wh1; rw [if_pos za]
                  rw [eW, e2]
                  refine ⟨rfl, by show q ≤ tkE B L q; omega, k4.2, ?_, S4.up (c := 44) (by decide) (by decide) _ _, fun c c1 c2 => ?_, fun c i c1 c2 => ?_, fun c i c1 => ?_, ?_⟩
                  · show zup (zup g1 45 nd 0) 44 nd (tkW B L q) 2 3 = (tkE B L q : Int)
                    rw [zup_off (by decide)]; exact T4.2.2.2.2 (by rw [z83.1]; decide)
                  · rw [zup_off (by omega), zup_off (by omega)]; exact F1.1 c c1
                  · rw [zup_ne (by omega), zup_ne (by omega), F1.1 c (by omega)]
                  · show zup (zup A 127 j 0) 134 j (tkW B L q) c i = A c i
                    rw [zup_ne (by omega), zup_ne (by omega)]
                  · have e5 : zup (zup g1 45 nd 0) 44 nd (tkW B L q) 45 nd = 0 := by rw [zup_off (by decide), zup_at]
                    have e6 : zup (zup A 127 j 0) 134 j (tkW B L q) 127 j = 0 := by rw [zup_off (by decide), zup_at]
                    have e7 : zup (zup g1 45 nd 0) 44 nd (tkW B L q) 44 nd = zup (zup A 127 j 0) 134 j (tkW B L q) 134 j := by rw [zup_at, zup_at]
                    refine ⟨fun _ => e7, fun z => by omega, fun z => by omega, fun z => by omega, fun _ => ⟨e7, by rw [e5]; exact e6.symm, ?_⟩⟩
                    show zup (zup A 127 j 0) 134 j (tkW B L q) 127 j = 0 ∨ zup (zup A 127 j 0) 134 j (tkW B L q) 127 j = 1
                    rw [e6]
                    first | exact Or.inl rfl | exact Or.inr rfl
                · have z83 := iteF c83
                  clear c83
                  refine z_al1 eX0_readWho_86 ?_
                  refine z_ki eX0_readWho_87 ?_
                  refine zc_vi1 eX0_readWho_88 lX0_64 tX9_refuse zs2 (by decide) (Nat.le_of_ble_eq_true rfl) (x_ref T4 _) ?_
                  rintro _ _ ⟨rfl, rfl⟩ -
                  refine ze_z eX0_readWho_91 rfl (by first | exact Or.inl rfl | exact Or.inr rfl) ?_
                  have eW : whF B L j q x A = wh1 B L j q 0 A := if_neg (fun y => z19 y.2)
                  have za : ¬ acQ B L q := fun za => z83 ⟨za.1, za.2.1⟩
                  have e2 : wh1 B L j q 0 A = .inl (fK (tkK B L q) 2, tkA B L q) := by unfold wh1; rw [if_neg za]
                  rw [eW, e2]
                  exact ⟨rfl, S4.bad _ _⟩
            · refine z_ki eX0_readWho_67 ?_
              refine z_goto eX0_readWho_68 rfl ?_
              refine z_is4 eX0_readWho_72 zn0 ?_
              refine z_il4 eX0_readWho_74 ?_
              refine z_ine eX0_readWho_76 rfl (fun c76 => ?_) (fun c76 => ?_)
              · refine z_al1 eX0_readWho_86 ?_
                refine z_ki eX0_readWho_87 ?_
                refine zc_vi1 eX0_readWho_88 lX0_64 tX9_refuse zs2 (by decide) (Nat.le_of_ble_eq_true rfl) (x_ref T4 _) ?_
                rintro _ _ ⟨rfl, rfl⟩ -
                refine ze_z eX0_readWho_91 rfl (by first | exact Or.inl rfl | exact Or.inr rfl) ?_
                have eW : whF B L j q x A = wh1 B L j q 0 A := if_neg (fun y => z19 y.2)
                have za : ¬ acQ B L q := fun za => c64 za.2.2.1
                have e2 : wh1 B L j q 0 A = .inl (fK (tkK B L q) 2, tkA B L q) := by unfold wh1; rw [if_neg za]
                rw [eW, e2]
                exact ⟨rfl, S4.bad _ _⟩
              · exact absurd c76 (by decide)
      · exact absurd rfl c34
    · have z19 := iteT c19
      clear c19
      refine z_ki eX0_readWho_22 ?_
      refine z_goto eX0_readWho_23 rfl ?_
      refine zs_zN eX0_readWho_27 zs45 (j := nd) (by omega) (by omega) (by first | exact Or.inl rfl | exact Or.inr rfl) ?_
      have S2 := S1.up (c := 45) (by decide) (by decide) nd 1
      have T2 := T1.up (c := 45) (by decide) nd 1
      have e32 : zup g1 45 nd 1 2 3 = ((tkE B L q : Nat) : Int) := by rw [zup_off (by decide)]; exact T1.2.2.2.2 (by rw [z19.1]; decide)
      have kq1 : tkE B L q ≤ tkE B L (tkE B L q) ∧ tkE B L (tkE B L q) ≤ L := ⟨by have := tk_b (B := B) kq.2; omega, (tk_b kq.2).2.2.1⟩
      refine z_al0 eX0_readWho_28 ?_
      refine z_ga eX0_readWho_29 fX0_25 zs40 (t := 45) rfl ?_
      refine z_il2 eX0_readWho_32 ?_
      refine zr_zN eX0_readWho_33 zs45 (j := nd) (by omega) (by omega) ?_
      rw [zup_at]
      refine z_ieq eX0_readWho_34 rfl (fun c34 => ?_) (fun c34 => ?_)
      · exact absurd c34 (by decide)
      · refine z_al1 eX0_readWho_37 ?_
        refine zc_vv0 eX0_readWho_38 lX0_55 tX9_advance zs2 (by decide) (Nat.le_of_ble_eq_true rfl) (x_adv _ B L S2.2.1 _ kq.2 e32) ?_
        rintro g3 ⟨F3, T3⟩
        have S4 := S2.fr F3
        have T4 := T3
        have hq4 := kq.2
        have k4 := kq1
        refine z_al1 eX0_readWho_41 ?_
        refine z_ldcS eX0_readWho_42 sX0_127 ?_
        refine zc_vi1 eX0_readWho_44 lX0_70 tX9_at zs2 (by decide) (Nat.le_of_ble_eq_true rfl) (x_at _ B L S4.2.1 _ hq4 T4 21 (by decide)) ?_
        rintro _ _ ⟨rfl, rfl⟩ -
        refine z_ine eX0_readWho_47 rfl (fun c47 => ?_) (fun c47 => ?_)
        · have z47 := iteT c47
          clear c47
          refine z_ki eX0_readWho_67 ?_
          refine z_goto eX0_readWho_68 rfl ?_
          refine z_is4 eX0_readWho_72 zn0 ?_
          refine z_il4 eX0_readWho_74 ?_
          refine z_ine eX0_readWho_76 rfl (fun c76 => ?_) (fun c76 => ?_)
          · refine z_al1 eX0_readWho_86 ?_
            refine z_ki eX0_readWho_87 ?_
            refine zc_vi1 eX0_readWho_88 lX0_64 tX9_refuse zs2 (by decide) (Nat.le_of_ble_eq_true rfl) (x_ref T4 _) ?_
            rintro _ _ ⟨rfl, rfl⟩ -
            refine ze_z eX0_readWho_91 rfl (by first | exact Or.inl rfl | exact Or.inr rfl) ?_
            have eW : whF B L j q x A = wh1 B L j (tkE B L q) 1 A := if_pos ⟨x1.1, z19⟩
            have za : ¬ acQ B L (tkE B L q) := fun za => za.2.2.2.1 z47.2
            have e2 : wh1 B L j (tkE B L q) 1 A = .inl (fK (tkK B L (tkE B L q)) 2, tkA B L (tkE B L q)) := by unfold wh1; rw [if_neg za]
            rw [eW, e2]
            exact ⟨rfl, S4.bad _ _⟩
          · exact absurd c76 (by decide)
        · have z47 := iteF c47
          clear c47
          refine z_al1 eX0_readWho_50 ?_
          refine z_ldcS eX0_readWho_51 sX0_68 ?_
          refine zc_vi1 eX0_readWho_53 lX0_70 tX9_at zs2 (by decide) (Nat.le_of_ble_eq_true rfl) (x_at _ B L S4.2.1 _ hq4 T4 13 (by decide)) ?_
          rintro _ _ ⟨rfl, rfl⟩ -
          refine z_ine eX0_readWho_56 rfl (fun c56 => ?_) (fun c56 => ?_)
          · have z56 := iteT c56
            clear c56
            refine z_ki eX0_readWho_67 ?_
            refine z_goto eX0_readWho_68 rfl ?_
            refine z_is4 eX0_readWho_72 zn0 ?_
            refine z_il4 eX0_readWho_74 ?_
            refine z_ine eX0_readWho_76 rfl (fun c76 => ?_) (fun c76 => ?_)
            · refine z_al1 eX0_readWho_86 ?_
              refine z_ki eX0_readWho_87 ?_
              refine zc_vi1 eX0_readWho_88 lX0_64 tX9_refuse zs2 (by decide) (Nat.le_of_ble_eq_true rfl) (x_ref T4 _) ?_
              rintro _ _ ⟨rfl, rfl⟩ -
              refine ze_z eX0_readWho_91 rfl (by first | exact Or.inl rfl | exact Or.inr rfl) ?_
              have eW : whF B L j q x A = wh1 B L j (tkE B L q) 1 A := if_pos ⟨x1.1, z19⟩
              have za : ¬ acQ B L (tkE B L q) := fun za => za.2.2.2.2 z56.2
              have e2 : wh1 B L j (tkE B L q) 1 A = .inl (fK (tkK B L (tkE B L q)) 2, tkA B L (tkE B L q)) := by unfold wh1; rw [if_neg za]
              rw [eW, e2]
              exact ⟨rfl, S4.bad _ _⟩
            · exact absurd c76 (by decide)
          · have z56 := iteF c56
            clear c56
            refine z_al1 eX0_readWho_59 ?_
            refine zc_si1 eX0_readWho_60 lX0_84 tX0_kindAt (by decide) (Nat.le_of_ble_eq_true rfl) (x_kindAt _ B L S4.2.1 _ hq4 T4) ?_
            rintro _ _ ⟨rfl, rfl⟩ -
            refine z_ki eX0_readWho_63 ?_
            refine z_ceq eX0_readWho_64 rfl (fun c64 => ?_) (fun c64 => ?_)
            · refine z_ki eX0_readWho_71 ?_
              refine z_is4 eX0_readWho_72 zn0 ?_
              refine z_il4 eX0_readWho_74 ?_
              refine z_ine eX0_readWho_76 rfl (fun c76 => ?_) (fun c76 => ?_)
              · exact absurd rfl c76
              · refine z_al1 eX0_readWho_79 ?_
                refine zc_vi0 eX0_readWho_80 lX0_129 tX9_atShortWord zs2 (by decide) (Nat.le_of_ble_eq_true rfl) (x_atShort _ B L _ T4) ?_
                rintro _ _ ⟨rfl, rfl⟩ -
                refine z_ine eX0_readWho_83 rfl (fun c83 => ?_) (fun c83 => ?_)
                · have z83 := iteT c83
                  clear c83
                  refine z_al0 eX0_readWho_92 ?_
                  refine z_ga eX0_readWho_93 fX0_21 zs40 (t := 44) rfl ?_
                  refine z_il2 eX0_readWho_96 ?_
                  refine z_al1 eX0_readWho_97 ?_
                  refine z_gj eX0_readWho_98 fX0_132 zs2 ?_
                  rw [T4.2.2.1 z83.1]
                  refine zs_lN eX0_readWho_101 zs44 (j := nd) (by omega) (by omega) ?_
                  refine z_ki eX0_readWho_102 ?_
                  refine ze_z eX0_readWho_103 rfl (by first | exact Or.inl rfl | exact Or.inr rfl) ?_
                  have eW : whF B L j q x A = wh1 B L j (tkE B L q) 1 A := if_pos ⟨x1.1, z19⟩
                  have za : acQ B L (tkE B L q) := ⟨z83.1, z83.2, c64, fun y => z47 ⟨z83.1, y⟩, fun y => z56 ⟨z83.1, y⟩⟩
                  have e2 : wh1 B L j (tkE B L q) 1 A = .inr (tkE B L (tkE B L q), zup (zup A 127 j 1) 134 j (tkW B L (tkE B L q))) := by unfold wh1; rw [if_pos za]
                  rw [eW, e2]
                  refine ⟨rfl, by show q ≤ tkE B L (tkE B L q); omega, k4.2, ?_, S4.up (c := 44) (by decide) (by decide) _ _, fun c c1 c2 => ?_, fun c i c1 c2 => ?_, fun c i c1 => ?_, ?_⟩
                  · show zup g3 44 nd (tkW B L (tkE B L q)) 2 3 = (tkE B L (tkE B L q) : Int)
                    rw [zup_off (by decide)]; exact T4.2.2.2.2 (by rw [z83.1]; decide)
                  · rw [zup_off (by omega), F3.1 c c1, zup_off (by omega)]; exact F1.1 c c1
                  · rw [zup_ne (by omega), F3.1 c (by omega), zup_ne (by omega), F1.1 c (by omega)]
                  · show zup (zup A 127 j 1) 134 j (tkW B L (tkE B L q)) c i = A c i
                    rw [zup_ne (by omega), zup_ne (by omega)]
                  · have e5 : zup g3 44 nd (tkW B L (tkE B L q)) 45 nd = 1 := by rw [zup_off (by decide), F3.1 45 (by decide), zup_at]
                    have e6 : zup (zup A 127 j 1) 134 j (tkW B L (tkE B L q)) 127 j = 1 := by rw [zup_off (by decide), zup_at]
                    have e7 : zup g3 44 nd (tkW B L (tkE B L q)) 44 nd = zup (zup A 127 j 1) 134 j (tkW B L (tkE B L q)) 134 j := by rw [zup_at, zup_at]
                    refine ⟨fun _ => e7, fun z => by omega, fun z => by omega, fun z => by omega, fun _ => ⟨e7, by rw [e5]; exact e6.symm, ?_⟩⟩
                    show zup (zup A 127 j 1) 134 j (tkW B L (tkE B L q)) 127 j = 0 ∨ zup (zup A 127 j 1) 134 j (tkW B L (tkE B L q)) 127 j = 1
                    rw [e6]
                    first | exact Or.inl rfl | exact Or.inr rfl
                · have z83 := iteF c83
                  clear c83
                  refine z_al1 eX0_readWho_86 ?_
                  refine z_ki eX0_readWho_87 ?_
                  refine zc_vi1 eX0_readWho_88 lX0_64 tX9_refuse zs2 (by decide) (Nat.le_of_ble_eq_true rfl) (x_ref T4 _) ?_
                  rintro _ _ ⟨rfl, rfl⟩ -
                  refine ze_z eX0_readWho_91 rfl (by first | exact Or.inl rfl | exact Or.inr rfl) ?_
                  have eW : whF B L j q x A = wh1 B L j (tkE B L q) 1 A := if_pos ⟨x1.1, z19⟩
                  have za : ¬ acQ B L (tkE B L q) := fun za => z83 ⟨za.1, za.2.1⟩
                  have e2 : wh1 B L j (tkE B L q) 1 A = .inl (fK (tkK B L (tkE B L q)) 2, tkA B L (tkE B L q)) := by unfold wh1; rw [if_neg za]
                  rw [eW, e2]
                  exact ⟨rfl, S4.bad _ _⟩
            · refine z_ki eX0_readWho_67 ?_
              refine z_goto eX0_readWho_68 rfl ?_
              refine z_is4 eX0_readWho_72 zn0 ?_
              refine z_il4 eX0_readWho_74 ?_
              refine z_ine eX0_readWho_76 rfl (fun c76 => ?_) (fun c76 => ?_)
              · refine z_al1 eX0_readWho_86 ?_
                refine z_ki eX0_readWho_87 ?_
                refine zc_vi1 eX0_readWho_88 lX0_64 tX9_refuse zs2 (by decide) (Nat.le_of_ble_eq_true rfl) (x_ref T4 _) ?_
                rintro _ _ ⟨rfl, rfl⟩ -
                refine ze_z eX0_readWho_91 rfl (by first | exact Or.inl rfl | exact Or.inr rfl) ?_
                have eW : whF B L j q x A = wh1 B L j (tkE B L q) 1 A := if_pos ⟨x1.1, z19⟩
                have za : ¬ acQ B L (tkE B L q) := fun za => c64 za.2.2.1
                have e2 : wh1 B L j (tkE B L q) 1 A = .inl (fK (tkK B L (tkE B L q)) 2, tkA B L (tkE B L q)) := by unfold wh1; rw [if_neg za]
                rw [eW, e2]
                exact ⟨rfl, S4.bad _ _⟩
              · exact absurd c76 (by decide)
theorem x_args (h0 h : zHp) (B : Nat → Int) (L q nd j : Nat) (A : zHp) (S : xTs 40 47 h0 B L h) (e3 : h 2 3 = (q : Int)) (hq : q ≤ L) (hnd : nd < 80) (kd : Int) (hk : 0 ≤ kd ∧ kd ≤ 7) : zCi mX0_readArguments 7 [zA 40, zA 2, zI kd, zI nd] h (fun v h' => xAr h0 (if kd = 4 then zup h 40 2 1 else h) B L nd j q A kd (arF B L j q kd A) v h') := by
  refine z_enter [zA 40, zA 2, zI kd, zI nd] (by decide +kernel) (Nat.le_of_ble_eq_true rfl) rfl (fun hra hrg => ?_)
  refine z_il2 eX0_readArguments_0 ?_
  by_cases q1_0 : kd = 2
  · refine zt_in 0 eX0_readArguments_1 (by omega) (by decide) rfl (na := 32) rfl ?_
    refine z_al0 eX0_readArguments_32 ?_
    refine z_al1 eX0_readArguments_33 ?_
    refine z_il3 eX0_readArguments_34 ?_
    refine zc_vi2 eX0_readArguments_35 lX0_108 tX0_readMove zs40 (by decide) (Nat.le_of_ble_eq_true rfl) (x_move h0 h B L q nd j A S e3 hq hnd kd (by omega)) ?_
    rintro v1 g1 R1 -
    refine ze_z eX0_readArguments_38 rfl (by exact xAr01 R1) ?_
    have e : arF B L j q kd A = moF B L j q A := if_pos (by omega)
    rw [e, if_neg (by omega)]
    exact R1
  by_cases q1_1 : kd = 3
  · refine zt_in 1 eX0_readArguments_1 (by omega) (by decide) rfl (na := 32) rfl ?_
    refine z_al0 eX0_readArguments_32 ?_
    refine z_al1 eX0_readArguments_33 ?_
    refine z_il3 eX0_readArguments_34 ?_
    refine zc_vi2 eX0_readArguments_35 lX0_108 tX0_readMove zs40 (by decide) (Nat.le_of_ble_eq_true rfl) (x_move h0 h B L q nd j A S e3 hq hnd kd (by omega)) ?_
    rintro v1 g1 R1 -
    refine ze_z eX0_readArguments_38 rfl (by exact xAr01 R1) ?_
    have e : arF B L j q kd A = moF B L j q A := if_pos (by omega)
    rw [e, if_neg (by omega)]
    exact R1
  by_cases q1_2 : kd = 4
  · refine zt_in 2 eX0_readArguments_1 (by omega) (by decide) rfl (na := 39) rfl ?_
    refine z_al0 eX0_readArguments_39 ?_
    refine z_ki eX0_readArguments_40 ?_
    refine z_pz eX0_readArguments_41 pX0_42 zs40 (by first | exact Or.inl rfl | exact Or.inr rfl) ?_
    refine z_al0 eX0_readArguments_44 ?_
    refine z_al1 eX0_readArguments_45 ?_
    refine z_il3 eX0_readArguments_46 ?_
    refine z_ki eX0_readArguments_47 ?_
    refine z_ki eX0_readArguments_48 ?_
    refine zc_vi4 eX0_readArguments_51 lX0_112 tX0_readNumber zs40 (by decide) (Nat.le_of_ble_eq_true rfl) (x_number h0 _ B L q nd j A (S.up (c := 40) (by decide) (by decide) 2 1) (by rw [zup_off (by decide)]; exact e3) hq hnd kd 0 999 (by omega)) ?_
    rintro v1 g1 R1 -
    refine ze_z eX0_readArguments_54 rfl (by exact xAr01 R1) ?_
    have e : arF B L j q kd A = nuF1 B L j q 0 999 A := by unfold arF; rw [if_neg (by omega), if_pos (by omega)]
    rw [e, if_pos (by omega)]
    exact R1
  by_cases q1_3 : kd = 5
  · refine zt_in 3 eX0_readArguments_1 (by omega) (by decide) rfl (na := 55) rfl ?_
    refine z_al0 eX0_readArguments_55 ?_
    refine z_al1 eX0_readArguments_56 ?_
    refine z_il3 eX0_readArguments_57 ?_
    refine z_ki eX0_readArguments_58 ?_
    refine z_ki eX0_readArguments_59 ?_
    refine zc_vi4 eX0_readArguments_61 lX0_112 tX0_readNumber zs40 (by decide) (Nat.le_of_ble_eq_true rfl) (x_number h0 h B L q nd j A S e3 hq hnd kd 1 9 (by omega)) ?_
    rintro v1 g1 R1 -
    refine ze_z eX0_readArguments_64 rfl (by exact xAr01 R1) ?_
    have e : arF B L j q kd A = nuF1 B L j q 1 9 A := by unfold arF; rw [if_neg (by omega), if_neg (by omega), if_pos (by omega)]
    rw [e, if_neg (by omega)]
    exact R1
  refine zt_out eX0_readArguments_1 (by omega) (na := 65) rfl ?_
  refine z_al0 eX0_readArguments_65 ?_
  refine z_al1 eX0_readArguments_66 ?_
  refine z_il3 eX0_readArguments_67 ?_
  refine z_il2 eX0_readArguments_68 ?_
  refine z_ki eX0_readArguments_69 ?_
  refine z_clt eX0_readArguments_71 rfl (fun c71 => ?_) (fun c71 => ?_)
  · refine z_ki eX0_readArguments_78 ?_
    refine zc_vi3 eX0_readArguments_79 lX0_116 tX0_readWho zs40 (by decide) (Nat.le_of_ble_eq_true rfl) (x_who h0 h B L q nd j A S e3 hq hnd kd _ (by omega)) ?_
    rintro v1 g1 R1 -
    refine ze_z eX0_readArguments_82 rfl (by exact xAr01 R1) ?_
    have e : arF B L j q kd A = whF B L j q 0 A := by unfold arF; rw [if_neg (by omega), if_neg (by omega), if_neg (by omega), if_neg (by omega)]
    rw [e, if_neg (by omega)]
    exact R1
  · refine z_ki eX0_readArguments_74 ?_
    refine z_goto eX0_readArguments_75 rfl ?_
    refine zc_vi3 eX0_readArguments_79 lX0_116 tX0_readWho zs40 (by decide) (Nat.le_of_ble_eq_true rfl) (x_who h0 h B L q nd j A S e3 hq hnd kd _ (by omega)) ?_
    rintro v1 g1 R1 -
    refine ze_z eX0_readArguments_82 rfl (by exact xAr01 R1) ?_
    have e : arF B L j q kd A = whF B L j q 1 A := by unfold arF; rw [if_neg (by omega), if_neg (by omega), if_neg (by omega), if_pos (by omega)]
    rw [e, if_neg (by omega)]
    exact R1
