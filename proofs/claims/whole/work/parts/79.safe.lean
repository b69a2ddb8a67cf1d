-- safe (written by wip/tools/specS1.py)
def wNow (D : Nat → Int) : Int := winNow D (D 2).toNat
def cSa (D : Nat → Int) (kd : Int) : Int := if (1 ≤ kd ∧ kd ≤ 3) ∨ (kd = 4 ∨ kd = 8 ∨ kd = 12) then (if 3 < kd ∧ 12 < D 1 then 7 else if wNow D < 0 then 8 else 0) else 5
def qSn (n : Int) : Int × Int := if n < 0 then (8, 0) else (n - 1, 0)
def qSp (n : Int) : Int × Int := if n < 0 then (5, 0) else (n - 1, 0)
theorem cSa_n {D : Nat → Int} {kd : Int} (h : 1 ≤ kd ∧ kd ≤ 3) (h2 : 0 ≤ wNow D) : cSa D kd = 0 := by
  unfold cSa; rw [if_pos (Or.inl h), if_neg (by omega), if_neg (by omega)]
theorem cSa_p {D : Nat → Int} {kd : Int} (h : kd = 4 ∨ kd = 8 ∨ kd = 12) (h1 : D 1 ≤ 12) (h2 : 0 ≤ wNow D) : cSa D kd = 0 := by
  unfold cSa; rw [if_pos (Or.inr h), if_neg (by omega), if_neg (by omega)]
theorem cSa_5 {D : Nat → Int} {kd : Int} (h : ¬ (1 ≤ kd ∧ kd ≤ 3)) (h1 : ¬ (kd = 4 ∨ kd = 8 ∨ kd = 12)) : cSa D kd = 5 := by
  unfold cSa; rw [if_neg (fun q => q.elim h h1)]
theorem cSa_7 {D : Nat → Int} {kd : Int} (h : kd = 4 ∨ kd = 8 ∨ kd = 12) (h1 : 12 < D 1) : cSa D kd = 7 := by
  unfold cSa; rw [if_pos (Or.inr h), if_pos ⟨by omega, h1⟩]
theorem cSa_8 {D : Nat → Int} {kd : Int} (h : (1 ≤ kd ∧ kd ≤ 3) ∨ (kd = 4 ∨ kd = 8 ∨ kd = 12)) (h1 : ¬ (3 < kd ∧ 12 < D 1)) (h2 : wNow D < 0) : cSa D kd = 8 := by
  unfold cSa; rw [if_pos h, if_neg h1, if_pos h2]
theorem isB_hi {D : Nat → Int} {a wn kd mo ch bm bc : Int} {br : Nat → Int} (H : isB D (nS D) ch (uR D a wn kd mo) bm bc br) (hm : 0 ≤ mo) : -1 ≤ bm ∧ bm ≤ mo := by
  rcases H with ⟨h1, -⟩ | ⟨h1, b, h2, -, h4, -⟩
  · omega
  · have := h2.2.1
    omega
theorem nmF_hi (D : Nat → Int) (a wn kd ch : Int) : ∀ x : Nat, x ≤ 256 → -1 ≤ (nmF D a wn kd ch x).1 ∧ (nmF D a wn kd ch x).1 ≤ 8 := by
  intro x
  induction x with
  | zero => intro _; exact ⟨by show (-1 : Int) ≤ -1; omega, by show (-1 : Int) ≤ 8; omega⟩
  | succ x ih =>
    intro hx
    have := ih (by omega)
    have hp := popc_b x (by omega)
    rw [nmF_s]
    unfold nmS
    split
    · exact ⟨by show (-1 : Int) ≤ (popc x : Int); omega, by show (popc x : Int) ≤ 8; omega⟩
    · exact this
def sPo (P : zHp → Int × Int → Int → zHp → Prop) (D : Nat → Int) (kd : Int) (h : zHp) (v : Int) (h' : zHp) : Prop :=
  (cSa D kd = 0 → kd ≤ 3 → P h (qSn (nmF D (wNow D) 0 kd 0 (2 ^ nN D)).1) v h') ∧ (cSa D kd = 0 → 3 < kd → ∃ (n c : Int) (r : Nat → Int), isB D (nS D) 0 (uR D (wNow D) 0 kd 5) n c r ∧ P h (qSp n) v h') ∧ (¬ cSa D kd = 0 → P h (-1, cSa D kd) v h')
theorem x_safe (h : zHp) (H : rHR h) (kd : Int) : zCi mX11_safe 18 [zA 0, zI kd] h (fun v h' => sPo pX0 (h 122) kd h v h') := by
  refine z_enter [zA 0, zI kd, zU] (by decide +kernel) (Nat.le_of_ble_eq_true rfl) rfl (fun hra hrg => ?_)
  obtain ⟨⟨hb, hst, e0, e1, e7, ek, es, eo, hp⟩, hru⟩ := id H
  have hN := nN_eq hb
  have hS := nS_eq hb
  have hN8 := nN_le hb
  have hS20 := nS_le hb
  have hb2 := hb.2.2.1
  have ew : winNow (h 122) (h 122 2).toNat = wNow (h 122) := rfl
  have hwb := winNow_b hb (h 122 2).toNat
  rw [ew] at hwb
  refine z_il1 eX11_safe_0 ?_
  refine zc_si1 eX11_safe_1 lX11_284 tX11_isOfNames (by decide) (Nat.le_of_ble_eq_true rfl) (x_isOfNames _ _) ?_
  rintro _ _ ⟨rfl, rfl⟩ -
  refine z_ine eX11_safe_4 rfl (fun c4 => ?_) (fun c4 => ?_)
  · have z4 := iteT c4
    refine z_il1 eX11_safe_20 ?_
    refine zc_si1 eX11_safe_21 lX11_302 tX11_isOfVoters (by decide) (Nat.le_of_ble_eq_true rfl) (x_isOfVoters _ _) ?_
    rintro _ _ ⟨rfl, rfl⟩ -
    refine z_ieq eX11_safe_24 rfl (fun c24 => ?_) (fun c24 => ?_)
    · have z24 := iteF c24
      refine z_al0 eX11_safe_46 ?_
      refine z_ga eX11_safe_47 fX11_65 zs0 (t := 50) rfl ?_
      refine z_al0 eX11_safe_50 ?_
      refine z_ga eX11_safe_51 fX11_25 zs0 (t := 4) rfl ?_
      refine z_gi eX11_safe_54 fX11_221 zs4 ?_
      rw [e1, stN hb]
      refine z_al0 eX11_safe_57 ?_
      refine z_ga eX11_safe_58 fX11_25 zs0 (t := 4) rfl ?_
      refine z_ga eX11_safe_61 fX11_237 zs4 (t := 9) rfl ?_
      refine zc_vi2 eX11_safe_64 lX11_249 tX2_winnerOf zs50 (by decide) (Nat.le_of_ble_eq_true rfl) (x_winN _ H _ (stL hb hst)) ?_
      rintro _ g ⟨rfl, hfr⟩ -
      rw [ew]
      have hxf : zXf h g := zXf.rf.fr hfr (by decide) (fun _ => rfl)
      refine z_is2 eX11_safe_67 zn0 ?_
      refine z_il2 eX11_safe_68 ?_
      refine z_ki eX11_safe_69 ?_
      refine z_cne eX11_safe_70 rfl (fun c70 => ?_) (fun c70 => ?_)
      · refine z_al0 eX11_safe_80 ?_
        refine z_ga eX11_safe_81 fX11_74 zs0 (t := 54) rfl ?_
        refine z_il2 eX11_safe_84 ?_
        refine z_ki eX11_safe_85 ?_
        refine z_il1 eX11_safe_86 ?_
        refine zc_vv3 eX11_safe_87 lX11_287 tX8_aim zs54 (by decide) (Nat.le_of_ble_eq_true rfl) (x_aim _ (wNow (h 122)) 0 kd (Or.inl rfl)) ?_
        rintro _ rfl
        have hga : zXf h (zup (zup (zup (zup g 54 2 (wNow (h 122))) 54 3 0) 54 4 kd) 54 8 (-1)) := (((hxf.up (by omega) (by omega) rfl).up (by omega) (by omega) rfl).up (by omega) (by omega) rfl).up (by omega) (by omega) rfl
        have Hg := H.xf hga
        have e122 : zup (zup (zup (zup g 54 2 (wNow (h 122))) 54 3 0) 54 4 kd) 54 8 (-1) 122 = h 122 := hga.2.1 122 (by omega)
        refine z_il1 eX11_safe_90 ?_
        refine zc_si1 eX11_safe_91 lX11_284 tX11_isOfNames (by decide) (Nat.le_of_ble_eq_true rfl) (x_isOfNames _ _) ?_
        rintro _ _ ⟨rfl, rfl⟩ -
        refine z_ieq eX11_safe_94 rfl (fun c94 => ?_) (fun c94 => ?_)
        · have z94 := iteF c94
          refine z_al0 eX11_safe_127 ?_
          refine z_al0 eX11_safe_128 ?_
          refine z_ga eX11_safe_129 fX11_74 zs0 (t := 54) rfl ?_
          refine z_ki eX11_safe_132 ?_
          refine z_ki eX11_safe_133 ?_
          refine zc_vi2 eX11_safe_134 lX11_305 tX8_byVoters zs54 (by decide) (Nat.le_of_ble_eq_true rfl) (x_bv (h 122) hb hst (by omega) (wNow (h 122)) 0 kd 5 0 (by omega) (Or.inl rfl) (by omega) (by omega) _ Hg e122 (by rw [zup_ne (by decide), zup_ne (by decide), zup_ne (by decide), zup_at]) (by rw [zup_ne (by decide), zup_ne (by decide), zup_at]) (by rw [zup_ne (by decide), zup_at]) (zup_at _ _ _ _)) ?_
          rintro _ g2 ⟨rfl, HB, hg2⟩ -
          have hx2 := hga.tr hg2
          have R8 := isB_hi HB (by omega)
          refine z_ieq eX11_safe_137 rfl (fun c137 => ?_) (fun c137 => ?_)
          · have z137 := iteF c137
            refine z_ki eX11_safe_152 ?_
            refine zc_vi1 eX11_safe_153 lX11_202 tX11_answer zs0 (by decide) (Nat.le_of_ble_eq_true rfl) (x_answer _ _) ?_
            rintro _ _ ⟨rfl, rfl⟩ -
            refine ze_i eX11_safe_156 rfl ?_
            refine ⟨fun _ q => by omega, fun _ _ => ⟨_, _, _, HB, ?_⟩, fun q => absurd (cSa_p (by omega) (by omega) (by omega)) q⟩
            exact pX0_f hx2 (by unfold qSp; rw [if_pos (by omega)])
          · have z137 := iteT c137
            refine z_al0 eX11_safe_140 ?_
            refine z_ga eX11_safe_141 fX11_74 zs0 (t := 54) rfl ?_
            refine z_gi eX11_safe_144 fX11_299 zs54 ?_
            refine z_ki eX11_safe_147 ?_
            refine z_isubN eX11_safe_148 (by omega) (by omega) ?_
            refine z_goto eX11_safe_149 rfl ?_
            refine zc_vi1 eX11_safe_153 lX11_202 tX11_answer zs0 (by decide) (Nat.le_of_ble_eq_true rfl) (x_answer _ _) ?_
            rintro _ _ ⟨rfl, rfl⟩ -
            refine ze_i eX11_safe_156 rfl ?_
            refine ⟨fun _ q => by omega, fun _ _ => ⟨_, _, _, HB, ?_⟩, fun q => absurd (cSa_p (by omega) (by omega) (by omega)) q⟩
            exact pX0_f hx2 (by unfold qSp; rw [if_neg (by omega)])
        · have z94 := iteT c94
          refine z_al0 eX11_safe_97 ?_
          refine z_al0 eX11_safe_98 ?_
          refine z_ga eX11_safe_99 fX11_74 zs0 (t := 54) rfl ?_
          refine z_ki eX11_safe_102 ?_
          refine zc_vi1 eX11_safe_103 lX11_291 tX8_byNames zs54 (by decide) (Nat.le_of_ble_eq_true rfl) (x_byN _ Hg (wNow (h 122)) 0 kd 0 (Or.inl rfl) (by omega) (by rw [zup_ne (by decide), zup_ne (by decide), zup_ne (by decide), zup_at]) (by rw [zup_ne (by decide), zup_ne (by decide), zup_at]) (by rw [zup_ne (by decide), zup_at]) (zup_at _ _ _ _)) ?_
          rw [e122]
          rintro _ g2 ⟨rfl, hg2, R⟩ -
          have hx2 := hga.tr hg2
          have R1 := R.1
          have R8 := nmF_hi (h 122) (wNow (h 122)) 0 kd 0 _ (p2le hN8)
          refine z_ieq eX11_safe_106 rfl (fun c106 => ?_) (fun c106 => ?_)
          · have z106 := iteF c106
            refine z_ki eX11_safe_121 ?_
            refine zc_vi1 eX11_safe_123 lX11_202 tX11_answer zs0 (by decide) (Nat.le_of_ble_eq_true rfl) (x_answer _ _) ?_
            rintro _ _ ⟨rfl, rfl⟩ -
            refine ze_i eX11_safe_126 rfl ?_
            refine ⟨fun _ _ => ?_, fun _ q => by omega, fun q => absurd (cSa_n (by omega) (by omega)) q⟩
            exact pX0_f hx2 (by unfold qSn; rw [if_pos (by omega)])
          · have z106 := iteT c106
            refine z_al0 eX11_safe_109 ?_
            refine z_ga eX11_safe_110 fX11_74 zs0 (t := 54) rfl ?_
            refine z_gi eX11_safe_113 fX11_299 zs54 ?_
            refine z_ki eX11_safe_116 ?_
            refine z_isubN eX11_safe_117 (by omega) (by omega) ?_
            refine z_goto eX11_safe_118 rfl ?_
            refine zc_vi1 eX11_safe_123 lX11_202 tX11_answer zs0 (by decide) (Nat.le_of_ble_eq_true rfl) (x_answer _ _) ?_
            rintro _ _ ⟨rfl, rfl⟩ -
            refine ze_i eX11_safe_126 rfl ?_
            refine ⟨fun _ _ => ?_, fun _ q => by omega, fun q => absurd (cSa_n (by omega) (by omega)) q⟩
            exact pX0_f hx2 (by unfold qSn; rw [if_neg (by omega), ← R.1])
      · refine z_al0 eX11_safe_73 ?_
        refine z_ki eX11_safe_74 ?_
        refine zc_vi1 eX11_safe_76 lX11_153 tX11_fail zs0 (by decide) (Nat.le_of_ble_eq_true rfl) (x_fail _ _) ?_
        rintro _ _ ⟨rfl, rfl⟩ -
        refine ze_i eX11_safe_79 rfl ?_
        have ec : cSa (h 122) kd = _ := cSa_8 (by omega) (by omega) (by omega)
        refine ⟨fun q => by omega, fun q => by omega, fun _ => ?_⟩
        exact pX0_f hxf (by rw [ec])
    · have z24 := iteT c24
      refine z_al0 eX11_safe_27 ?_
      refine z_ga eX11_safe_28 fX11_25 zs0 (t := 4) rfl ?_
      refine z_gi eX11_safe_31 fX11_123 zs4 ?_
      refine z_ki eX11_safe_34 ?_
      refine z_cle eX11_safe_36 rfl (fun c36 => ?_) (fun c36 => ?_)
      · refine z_al0 eX11_safe_46 ?_
        refine z_ga eX11_safe_47 fX11_65 zs0 (t := 50) rfl ?_
        refine z_al0 eX11_safe_50 ?_
        refine z_ga eX11_safe_51 fX11_25 zs0 (t := 4) rfl ?_
        refine z_gi eX11_safe_54 fX11_221 zs4 ?_
        rw [e1, stN hb]
        refine z_al0 eX11_safe_57 ?_
        refine z_ga eX11_safe_58 fX11_25 zs0 (t := 4) rfl ?_
        refine z_ga eX11_safe_61 fX11_237 zs4 (t := 9) rfl ?_
        refine zc_vi2 eX11_safe_64 lX11_249 tX2_winnerOf zs50 (by decide) (Nat.le_of_ble_eq_true rfl) (x_winN _ H _ (stL hb hst)) ?_
        rintro _ g ⟨rfl, hfr⟩ -
        rw [ew]
        have hxf : zXf h g := zXf.rf.fr hfr (by decide) (fun _ => rfl)
        refine z_is2 eX11_safe_67 zn0 ?_
        refine z_il2 eX11_safe_68 ?_
        refine z_ki eX11_safe_69 ?_
        refine z_cne eX11_safe_70 rfl (fun c70 => ?_) (fun c70 => ?_)
        · refine z_al0 eX11_safe_80 ?_
          refine z_ga eX11_safe_81 fX11_74 zs0 (t := 54) rfl ?_
          refine z_il2 eX11_safe_84 ?_
          refine z_ki eX11_safe_85 ?_
          refine z_il1 eX11_safe_86 ?_
          refine zc_vv3 eX11_safe_87 lX11_287 tX8_aim zs54 (by decide) (Nat.le_of_ble_eq_true rfl) (x_aim _ (wNow (h 122)) 0 kd (Or.inl rfl)) ?_
          rintro _ rfl
          have hga : zXf h (zup (zup (zup (zup g 54 2 (wNow (h 122))) 54 3 0) 54 4 kd) 54 8 (-1)) := (((hxf.up (by omega) (by omega) rfl).up (by omega) (by omega) rfl).up (by omega) (by omega) rfl).up (by omega) (by omega) rfl
          have Hg := H.xf hga
          have e122 : zup (zup (zup (zup g 54 2 (wNow (h 122))) 54 3 0) 54 4 kd) 54 8 (-1) 122 = h 122 := hga.2.1 122 (by omega)
          refine z_il1 eX11_safe_90 ?_
          refine zc_si1 eX11_safe_91 lX11_284 tX11_isOfNames (by decide) (Nat.le_of_ble_eq_true rfl) (x_isOfNames _ _) ?_
          rintro _ _ ⟨rfl, rfl⟩ -
          refine z_ieq eX11_safe_94 rfl (fun c94 => ?_) (fun c94 => ?_)
          · have z94 := iteF c94
            refine z_al0 eX11_safe_127 ?_
            refine z_al0 eX11_safe_128 ?_
            refine z_ga eX11_safe_129 fX11_74 zs0 (t := 54) rfl ?_
            refine z_ki eX11_safe_132 ?_
            refine z_ki eX11_safe_133 ?_
            refine zc_vi2 eX11_safe_134 lX11_305 tX8_byVoters zs54 (by decide) (Nat.le_of_ble_eq_true rfl) (x_bv (h 122) hb hst (by omega) (wNow (h 122)) 0 kd 5 0 (by omega) (Or.inl rfl) (by omega) (by omega) _ Hg e122 (by rw [zup_ne (by decide), zup_ne (by decide), zup_ne (by decide), zup_at]) (by rw [zup_ne (by decide), zup_ne (by decide), zup_at]) (by rw [zup_ne (by decide), zup_at]) (zup_at _ _ _ _)) ?_
            rintro _ g2 ⟨rfl, HB, hg2⟩ -
            have hx2 := hga.tr hg2
            have R8 := isB_hi HB (by omega)
            refine z_ieq eX11_safe_137 rfl (fun c137 => ?_) (fun c137 => ?_)
            · have z137 := iteF c137
              refine z_ki eX11_safe_152 ?_
              refine zc_vi1 eX11_safe_153 lX11_202 tX11_answer zs0 (by decide) (Nat.le_of_ble_eq_true rfl) (x_answer _ _) ?_
              rintro _ _ ⟨rfl, rfl⟩ -
              refine ze_i eX11_safe_156 rfl ?_
              refine ⟨fun _ q => by omega, fun _ _ => ⟨_, _, _, HB, ?_⟩, fun q => absurd (cSa_p (by omega) (by omega) (by omega)) q⟩
              exact pX0_f hx2 (by unfold qSp; rw [if_pos (by omega)])
            · have z137 := iteT c137
              refine z_al0 eX11_safe_140 ?_
              refine z_ga eX11_safe_141 fX11_74 zs0 (t := 54) rfl ?_
              refine z_gi eX11_safe_144 fX11_299 zs54 ?_
              refine z_ki eX11_safe_147 ?_
              refine z_isubN eX11_safe_148 (by omega) (by omega) ?_
              refine z_goto eX11_safe_149 rfl ?_
              refine zc_vi1 eX11_safe_153 lX11_202 tX11_answer zs0 (by decide) (Nat.le_of_ble_eq_true rfl) (x_answer _ _) ?_
              rintro _ _ ⟨rfl, rfl⟩ -
              refine ze_i eX11_safe_156 rfl ?_
              refine ⟨fun _ q => by omega, fun _ _ => ⟨_, _, _, HB, ?_⟩, fun q => absurd (cSa_p (by omega) (by omega) (by omega)) q⟩
              exact pX0_f hx2 (by unfold qSp; rw [if_neg (by omega)])
          · have z94 := iteT c94
            refine z_al0 eX11_safe_97 ?_
            refine z_al0 eX11_safe_98 ?_
            refine z_ga eX11_safe_99 fX11_74 zs0 (t := 54) rfl ?_
            refine z_ki eX11_safe_102 ?_
            refine zc_vi1 eX11_safe_103 lX11_291 tX8_byNames zs54 (by decide) (Nat.le_of_ble_eq_true rfl) (x_byN _ Hg (wNow (h 122)) 0 kd 0 (Or.inl rfl) (by omega) (by rw [zup_ne (by decide), zup_ne (by decide), zup_ne (by decide), zup_at]) (by rw [zup_ne (by decide), zup_ne (by decide), zup_at]) (by rw [zup_ne (by decide), zup_at]) (zup_at _ _ _ _)) ?_
            rw [e122]
            rintro _ g2 ⟨rfl, hg2, R⟩ -
            have hx2 := hga.tr hg2
            have R1 := R.1
            have R8 := nmF_hi (h 122) (wNow (h 122)) 0 kd 0 _ (p2le hN8)
            refine z_ieq eX11_safe_106 rfl (fun c106 => ?_) (fun c106 => ?_)
            · have z106 := iteF c106
              refine z_ki eX11_safe_121 ?_
              refine zc_vi1 eX11_safe_123 lX11_202 tX11_answer zs0 (by decide) (Nat.le_of_ble_eq_true rfl) (x_answer _ _) ?_
              rintro _ _ ⟨rfl, rfl⟩ -
              refine ze_i eX11_safe_126 rfl ?_
              refine ⟨fun _ _ => ?_, fun _ q => by omega, fun q => absurd (cSa_n (by omega) (by omega)) q⟩
              exact pX0_f hx2 (by unfold qSn; rw [if_pos (by omega)])
            · have z106 := iteT c106
              refine z_al0 eX11_safe_109 ?_
              refine z_ga eX11_safe_110 fX11_74 zs0 (t := 54) rfl ?_
              refine z_gi eX11_safe_113 fX11_299 zs54 ?_
              refine z_ki eX11_safe_116 ?_
              refine z_isubN eX11_safe_117 (by omega) (by omega) ?_
              refine z_goto eX11_safe_118 rfl ?_
              refine zc_vi1 eX11_safe_123 lX11_202 tX11_answer zs0 (by decide) (Nat.le_of_ble_eq_true rfl) (x_answer _ _) ?_
              rintro _ _ ⟨rfl, rfl⟩ -
              refine ze_i eX11_safe_126 rfl ?_
              refine ⟨fun _ _ => ?_, fun _ q => by omega, fun q => absurd (cSa_n (by omega) (by omega)) q⟩
              exact pX0_f hx2 (by unfold qSn; rw [if_neg (by omega), ← R.1])
        · refine z_al0 eX11_safe_73 ?_
          refine z_ki eX11_safe_74 ?_
          refine zc_vi1 eX11_safe_76 lX11_153 tX11_fail zs0 (by decide) (Nat.le_of_ble_eq_true rfl) (x_fail _ _) ?_
          rintro _ _ ⟨rfl, rfl⟩ -
          refine ze_i eX11_safe_79 rfl ?_
          have ec : cSa (h 122) kd = _ := cSa_8 (by omega) (by omega) (by omega)
          refine ⟨fun q => by omega, fun q => by omega, fun _ => ?_⟩
          exact pX0_f hxf (by rw [ec])
      · refine z_al0 eX11_safe_39 ?_
        refine z_ki eX11_safe_40 ?_
        refine zc_vi1 eX11_safe_42 lX11_153 tX11_fail zs0 (by decide) (Nat.le_of_ble_eq_true rfl) (x_fail _ _) ?_
        rintro _ _ ⟨rfl, rfl⟩ -
        refine ze_i eX11_safe_45 rfl ?_
        have ec : cSa (h 122) kd = _ := cSa_7 z24 (by omega)
        refine ⟨fun q => by omega, fun q => by omega, fun _ => ?_⟩
        exact pX0_f zXf.rf (by rw [ec])
  · have z4 := iteF c4
    refine z_il1 eX11_safe_7 ?_
    refine zc_si1 eX11_safe_8 lX11_302 tX11_isOfVoters (by decide) (Nat.le_of_ble_eq_true rfl) (x_isOfVoters _ _) ?_
    rintro _ _ ⟨rfl, rfl⟩ -
    refine z_ine eX11_safe_11 rfl (fun c11 => ?_) (fun c11 => ?_)
    · have z11 := iteT c11
      refine z_il1 eX11_safe_20 ?_
      refine zc_si1 eX11_safe_21 lX11_302 tX11_isOfVoters (by decide) (Nat.le_of_ble_eq_true rfl) (x_isOfVoters _ _) ?_
      rintro _ _ ⟨rfl, rfl⟩ -
      refine z_ieq eX11_safe_24 rfl (fun c24 => ?_) (fun c24 => ?_)
      · have z24 := iteF c24
        refine z_al0 eX11_safe_46 ?_
        refine z_ga eX11_safe_47 fX11_65 zs0 (t := 50) rfl ?_
        refine z_al0 eX11_safe_50 ?_
        refine z_ga eX11_safe_51 fX11_25 zs0 (t := 4) rfl ?_
        refine z_gi eX11_safe_54 fX11_221 zs4 ?_
        rw [e1, stN hb]
        refine z_al0 eX11_safe_57 ?_
        refine z_ga eX11_safe_58 fX11_25 zs0 (t := 4) rfl ?_
        refine z_ga eX11_safe_61 fX11_237 zs4 (t := 9) rfl ?_
        refine zc_vi2 eX11_safe_64 lX11_249 tX2_winnerOf zs50 (by decide) (Nat.le_of_ble_eq_true rfl) (x_winN _ H _ (stL hb hst)) ?_
        rintro _ g ⟨rfl, hfr⟩ -
        rw [ew]
        have hxf : zXf h g := zXf.rf.fr hfr (by decide) (fun _ => rfl)
        refine z_is2 eX11_safe_67 zn0 ?_
        refine z_il2 eX11_safe_68 ?_
        refine z_ki eX11_safe_69 ?_
        refine z_cne eX11_safe_70 rfl (fun c70 => ?_) (fun c70 => ?_)
        · refine z_al0 eX11_safe_80 ?_
          refine z_ga eX11_safe_81 fX11_74 zs0 (t := 54) rfl ?_
          refine z_il2 eX11_safe_84 ?_
          refine z_ki eX11_safe_85 ?_
          refine z_il1 eX11_safe_86 ?_
          refine zc_vv3 eX11_safe_87 lX11_287 tX8_aim zs54 (by decide) (Nat.le_of_ble_eq_true rfl) (x_aim _ (wNow (h 122)) 0 kd (Or.inl rfl)) ?_
          rintro _ rfl
          have hga : zXf h (zup (zup (zup (zup g 54 2 (wNow (h 122))) 54 3 0) 54 4 kd) 54 8 (-1)) := (((hxf.up (by omega) (by omega) rfl).up (by omega) (by omega) rfl).up (by omega) (by omega) rfl).up (by omega) (by omega) rfl
          have Hg := H.xf hga
          have e122 : zup (zup (zup (zup g 54 2 (wNow (h 122))) 54 3 0) 54 4 kd) 54 8 (-1) 122 = h 122 := hga.2.1 122 (by omega)
          refine z_il1 eX11_safe_90 ?_
          refine zc_si1 eX11_safe_91 lX11_284 tX11_isOfNames (by decide) (Nat.le_of_ble_eq_true rfl) (x_isOfNames _ _) ?_
          rintro _ _ ⟨rfl, rfl⟩ -
          refine z_ieq eX11_safe_94 rfl (fun c94 => ?_) (fun c94 => ?_)
          · have z94 := iteF c94
            refine z_al0 eX11_safe_127 ?_
            refine z_al0 eX11_safe_128 ?_
            refine z_ga eX11_safe_129 fX11_74 zs0 (t := 54) rfl ?_
            refine z_ki eX11_safe_132 ?_
            refine z_ki eX11_safe_133 ?_
            refine zc_vi2 eX11_safe_134 lX11_305 tX8_byVoters zs54 (by decide) (Nat.le_of_ble_eq_true rfl) (x_bv (h 122) hb hst (by omega) (wNow (h 122)) 0 kd 5 0 (by omega) (Or.inl rfl) (by omega) (by omega) _ Hg e122 (by rw [zup_ne (by decide), zup_ne (by decide), zup_ne (by decide), zup_at]) (by rw [zup_ne (by decide), zup_ne (by decide), zup_at]) (by rw [zup_ne (by decide), zup_at]) (zup_at _ _ _ _)) ?_
            rintro _ g2 ⟨rfl, HB, hg2⟩ -
            have hx2 := hga.tr hg2
            have R8 := isB_hi HB (by omega)
            refine z_ieq eX11_safe_137 rfl (fun c137 => ?_) (fun c137 => ?_)
            · have z137 := iteF c137
              refine z_ki eX11_safe_152 ?_
              refine zc_vi1 eX11_safe_153 lX11_202 tX11_answer zs0 (by decide) (Nat.le_of_ble_eq_true rfl) (x_answer _ _) ?_
              rintro _ _ ⟨rfl, rfl⟩ -
              refine ze_i eX11_safe_156 rfl ?_
              refine ⟨fun _ q => by omega, fun _ _ => ⟨_, _, _, HB, ?_⟩, fun q => absurd (cSa_p (by omega) (by omega) (by omega)) q⟩
              exact pX0_f hx2 (by unfold qSp; rw [if_pos (by omega)])
            · have z137 := iteT c137
              refine z_al0 eX11_safe_140 ?_
              refine z_ga eX11_safe_141 fX11_74 zs0 (t := 54) rfl ?_
              refine z_gi eX11_safe_144 fX11_299 zs54 ?_
              refine z_ki eX11_safe_147 ?_
              refine z_isubN eX11_safe_148 (by omega) (by omega) ?_
              refine z_goto eX11_safe_149 rfl ?_
              refine zc_vi1 eX11_safe_153 lX11_202 tX11_answer zs0 (by decide) (Nat.le_of_ble_eq_true rfl) (x_answer _ _) ?_
              rintro _ _ ⟨rfl, rfl⟩ -
              refine ze_i eX11_safe_156 rfl ?_
              refine ⟨fun _ q => by omega, fun _ _ => ⟨_, _, _, HB, ?_⟩, fun q => absurd (cSa_p (by omega) (by omega) (by omega)) q⟩
              exact pX0_f hx2 (by unfold qSp; rw [if_neg (by omega)])
          · have z94 := iteT c94
            refine z_al0 eX11_safe_97 ?_
            refine z_al0 eX11_safe_98 ?_
            refine z_ga eX11_safe_99 fX11_74 zs0 (t := 54) rfl ?_
            refine z_ki eX11_safe_102 ?_
            refine zc_vi1 eX11_safe_103 lX11_291 tX8_byNames zs54 (by decide) (Nat.le_of_ble_eq_true rfl) (x_byN _ Hg (wNow (h 122)) 0 kd 0 (Or.inl rfl) (by omega) (by rw [zup_ne (by decide), zup_ne (by decide), zup_ne (by decide), zup_at]) (by rw [zup_ne (by decide), zup_ne (by decide), zup_at]) (by rw [zup_ne (by decide), zup_at]) (zup_at _ _ _ _)) ?_
            rw [e122]
            rintro _ g2 ⟨rfl, hg2, R⟩ -
            have hx2 := hga.tr hg2
            have R1 := R.1
            have R8 := nmF_hi (h 122) (wNow (h 122)) 0 kd 0 _ (p2le hN8)
            refine z_ieq eX11_safe_106 rfl (fun c106 => ?_) (fun c106 => ?_)
            · have z106 := iteF c106
              refine z_ki eX11_safe_121 ?_
              refine zc_vi1 eX11_safe_123 lX11_202 tX11_answer zs0 (by decide) (Nat.le_of_ble_eq_true rfl) (x_answer _ _) ?_
              rintro _ _ ⟨rfl, rfl⟩ -
              refine ze_i eX11_safe_126 rfl ?_
              refine ⟨fun _ _ => ?_, fun _ q => by omega, fun q => absurd (cSa_n (by omega) (by omega)) q⟩
              exact pX0_f hx2 (by unfold qSn; rw [if_pos (by omega)])
            · have z106 := iteT c106
              refine z_al0 eX11_safe_109 ?_
              refine z_ga eX11_safe_110 fX11_74 zs0 (t := 54) rfl ?_
              refine z_gi eX11_safe_113 fX11_299 zs54 ?_
              refine z_ki eX11_safe_116 ?_
              refine z_isubN eX11_safe_117 (by omega) (by omega) ?_
              refine z_goto eX11_safe_118 rfl ?_
              refine zc_vi1 eX11_safe_123 lX11_202 tX11_answer zs0 (by decide) (Nat.le_of_ble_eq_true rfl) (x_answer _ _) ?_
              rintro _ _ ⟨rfl, rfl⟩ -
              refine ze_i eX11_safe_126 rfl ?_
              refine ⟨fun _ _ => ?_, fun _ q => by omega, fun q => absurd (cSa_n (by omega) (by omega)) q⟩
              exact pX0_f hx2 (by unfold qSn; rw [if_neg (by omega), ← R.1])
        · refine z_al0 eX11_safe_73 ?_
          refine z_ki eX11_safe_74 ?_
          refine zc_vi1 eX11_safe_76 lX11_153 tX11_fail zs0 (by decide) (Nat.le_of_ble_eq_true rfl) (x_fail _ _) ?_
          rintro _ _ ⟨rfl, rfl⟩ -
          refine ze_i eX11_safe_79 rfl ?_
          have ec : cSa (h 122) kd = _ := cSa_8 (by omega) (by omega) (by omega)
          refine ⟨fun q => by omega, fun q => by omega, fun _ => ?_⟩
          exact pX0_f hxf (by rw [ec])
      · have z24 := iteT c24
        refine z_al0 eX11_safe_27 ?_
        refine z_ga eX11_safe_28 fX11_25 zs0 (t := 4) rfl ?_
        refine z_gi eX11_safe_31 fX11_123 zs4 ?_
        refine z_ki eX11_safe_34 ?_
        refine z_cle eX11_safe_36 rfl (fun c36 => ?_) (fun c36 => ?_)
        · refine z_al0 eX11_safe_46 ?_
          refine z_ga eX11_safe_47 fX11_65 zs0 (t := 50) rfl ?_
          refine z_al0 eX11_safe_50 ?_
          refine z_ga eX11_safe_51 fX11_25 zs0 (t := 4) rfl ?_
          refine z_gi eX11_safe_54 fX11_221 zs4 ?_
          rw [e1, stN hb]
          refine z_al0 eX11_safe_57 ?_
          refine z_ga eX11_safe_58 fX11_25 zs0 (t := 4) rfl ?_
          refine z_ga eX11_safe_61 fX11_237 zs4 (t := 9) rfl ?_
          refine zc_vi2 eX11_safe_64 lX11_249 tX2_winnerOf zs50 (by decide) (Nat.le_of_ble_eq_true rfl) (x_winN _ H _ (stL hb hst)) ?_
          rintro _ g ⟨rfl, hfr⟩ -
          rw [ew]
          have hxf : zXf h g := zXf.rf.fr hfr (by decide) (fun _ => rfl)
          refine z_is2 eX11_safe_67 zn0 ?_
          refine z_il2 eX11_safe_68 ?_
          refine z_ki eX11_safe_69 ?_
          refine z_cne eX11_safe_70 rfl (fun c70 => ?_) (fun c70 => ?_)
          · refine z_al0 eX11_safe_80 ?_
            refine z_ga eX11_safe_81 fX11_74 zs0 (t := 54) rfl ?_
            refine z_il2 eX11_safe_84 ?_
            refine z_ki eX11_safe_85 ?_
            refine z_il1 eX11_safe_86 ?_
            refine zc_vv3 eX11_safe_87 lX11_287 tX8_aim zs54 (by decide) (Nat.le_of_ble_eq_true rfl) (x_aim _ (wNow (h 122)) 0 kd (Or.inl rfl)) ?_
            rintro _ rfl
            have hga : zXf h (zup (zup (zup (zup g 54 2 (wNow (h 122))) 54 3 0) 54 4 kd) 54 8 (-1)) := (((hxf.up (by omega) (by omega) rfl).up (by omega) (by omega) rfl).up (by omega) (by omega) rfl).up (by omega) (by omega) rfl
            have Hg := H.xf hga
            have e122 : zup (zup (zup (zup g 54 2 (wNow (h 122))) 54 3 0) 54 4 kd) 54 8 (-1) 122 = h 122 := hga.2.1 122 (by omega)
            refine z_il1 eX11_safe_90 ?_
            refine zc_si1 eX11_safe_91 lX11_284 tX11_isOfNames (by decide) (Nat.le_of_ble_eq_true rfl) (x_isOfNames _ _) ?_
            rintro _ _ ⟨rfl, rfl⟩ -
            refine z_ieq eX11_safe_94 rfl (fun c94 => ?_) (fun c94 => ?_)
            · have z94 := iteF c94
              refine z_al0 eX11_safe_127 ?_
              refine z_al0 eX11_safe_128 ?_
              refine z_ga eX11_safe_129 fX11_74 zs0 (t := 54) rfl ?_
              refine z_ki eX11_safe_132 ?_
              refine z_ki eX11_safe_133 ?_
              refine zc_vi2 eX11_safe_134 lX11_305 tX8_byVoters zs54 (by decide) (Nat.le_of_ble_eq_true rfl) (x_bv (h 122) hb hst (by omega) (wNow (h 122)) 0 kd 5 0 (by omega) (Or.inl rfl) (by omega) (by omega) _ Hg e122 (by rw [zup_ne (by decide), zup_ne (by decide), zup_ne (by decide), zup_at]) (by rw [zup_ne (by decide), zup_ne (by decide), zup_at]) (by rw [zup_ne (by decide), zup_at]) (zup_at _ _ _ _)) ?_
              rintro _ g2 ⟨rfl, HB, hg2⟩ -
              have hx2 := hga.tr hg2
              have R8 := isB_hi HB (by omega)
              refine z_ieq eX11_safe_137 rfl (fun c137 => ?_) (fun c137 => ?_)
              · have z137 := iteF c137
                refine z_ki eX11_safe_152 ?_
                refine zc_vi1 eX11_safe_153 lX11_202 tX11_answer zs0 (by decide) (Nat.le_of_ble_eq_true rfl) (x_answer _ _) ?_
                rintro _ _ ⟨rfl, rfl⟩ -
                refine ze_i eX11_safe_156 rfl ?_
                refine ⟨fun _ q => by omega, fun _ _ => ⟨_, _, _, HB, ?_⟩, fun q => absurd (cSa_p (by omega) (by omega) (by omega)) q⟩
                exact pX0_f hx2 (by unfold qSp; rw [if_pos (by omega)])
              · have z137 := iteT c137
                refine z_al0 eX11_safe_140 ?_
                refine z_ga eX11_safe_141 fX11_74 zs0 (t := 54) rfl ?_
                refine z_gi eX11_safe_144 fX11_299 zs54 ?_
                refine z_ki eX11_safe_147 ?_
                refine z_isubN eX11_safe_148 (by omega) (by omega) ?_
                refine z_goto eX11_safe_149 rfl ?_
                refine zc_vi1 eX11_safe_153 lX11_202 tX11_answer zs0 (by decide) (Nat.le_of_ble_eq_true rfl) (x_answer _ _) ?_
                rintro _ _ ⟨rfl, rfl⟩ -
                refine ze_i eX11_safe_156 rfl ?_
                refine ⟨fun _ q => by omega, fun _ _ => ⟨_, _, _, HB, ?_⟩, fun q => absurd (cSa_p (by omega) (by omega) (by omega)) q⟩
                exact pX0_f hx2 (by unfold qSp; rw [if_neg (by omega)])
            · have z94 := iteT c94
              refine z_al0 eX11_safe_97 ?_
              refine z_al0 eX11_safe_98 ?_
              refine z_ga eX11_safe_99 fX11_74 zs0 (t := 54) rfl ?_
              refine z_ki eX11_safe_102 ?_
              refine zc_vi1 eX11_safe_103 lX11_291 tX8_byNames zs54 (by decide) (Nat.le_of_ble_eq_true rfl) (x_byN _ Hg (wNow (h 122)) 0 kd 0 (Or.inl rfl) (by omega) (by rw [zup_ne (by decide), zup_ne (by decide), zup_ne (by decide), zup_at]) (by rw [zup_ne (by decide), zup_ne (by decide), zup_at]) (by rw [zup_ne (by decide), zup_at]) (zup_at _ _ _ _)) ?_
              rw [e122]
              rintro _ g2 ⟨rfl, hg2, R⟩ -
              have hx2 := hga.tr hg2
              have R1 := R.1
              have R8 := nmF_hi (h 122) (wNow (h 122)) 0 kd 0 _ (p2le hN8)
              refine z_ieq eX11_safe_106 rfl (fun c106 => ?_) (fun c106 => ?_)
              · have z106 := iteF c106
                refine z_ki eX11_safe_121 ?_
                refine zc_vi1 eX11_safe_123 lX11_202 tX11_answer zs0 (by decide) (Nat.le_of_ble_eq_true rfl) (x_answer _ _) ?_
                rintro _ _ ⟨rfl, rfl⟩ -
                refine ze_i eX11_safe_126 rfl ?_
                refine ⟨fun _ _ => ?_, fun _ q => by omega, fun q => absurd (cSa_n (by omega) (by omega)) q⟩
                exact pX0_f hx2 (by unfold qSn; rw [if_pos (by omega)])
              · have z106 := iteT c106
                refine z_al0 eX11_safe_109 ?_
                refine z_ga eX11_safe_110 fX11_74 zs0 (t := 54) rfl ?_
                refine z_gi eX11_safe_113 fX11_299 zs54 ?_
                refine z_ki eX11_safe_116 ?_
                refine z_isubN eX11_safe_117 (by omega) (by omega) ?_
                refine z_goto eX11_safe_118 rfl ?_
                refine zc_vi1 eX11_safe_123 lX11_202 tX11_answer zs0 (by decide) (Nat.le_of_ble_eq_true rfl) (x_answer _ _) ?_
                rintro _ _ ⟨rfl, rfl⟩ -
                refine ze_i eX11_safe_126 rfl ?_
                refine ⟨fun _ _ => ?_, fun _ q => by omega, fun q => absurd (cSa_n (by omega) (by omega)) q⟩
                exact pX0_f hx2 (by unfold qSn; rw [if_neg (by omega), ← R.1])
          · refine z_al0 eX11_safe_73 ?_
            refine z_ki eX11_safe_74 ?_
            refine zc_vi1 eX11_safe_76 lX11_153 tX11_fail zs0 (by decide) (Nat.le_of_ble_eq_true rfl) (x_fail _ _) ?_
            rintro _ _ ⟨rfl, rfl⟩ -
            refine ze_i eX11_safe_79 rfl ?_
            have ec : cSa (h 122) kd = _ := cSa_8 (by omega) (by omega) (by omega)
            refine ⟨fun q => by omega, fun q => by omega, fun _ => ?_⟩
            exact pX0_f hxf (by rw [ec])
        · refine z_al0 eX11_safe_39 ?_
          refine z_ki eX11_safe_40 ?_
          refine zc_vi1 eX11_safe_42 lX11_153 tX11_fail zs0 (by decide) (Nat.le_of_ble_eq_true rfl) (x_fail _ _) ?_
          rintro _ _ ⟨rfl, rfl⟩ -
          refine ze_i eX11_safe_45 rfl ?_
          have ec : cSa (h 122) kd = _ := cSa_7 z24 (by omega)
          refine ⟨fun q => by omega, fun q => by omega, fun _ => ?_⟩
          exact pX0_f zXf.rf (by rw [ec])
    · have z11 := iteF c11
      refine z_al0 eX11_safe_14 ?_
      refine z_ki eX11_safe_15 ?_
      refine zc_vi1 eX11_safe_16 lX11_153 tX11_fail zs0 (by decide) (Nat.le_of_ble_eq_true rfl) (x_fail _ _) ?_
      rintro _ _ ⟨rfl, rfl⟩ -
      refine ze_i eX11_safe_19 rfl ?_
      have ec : cSa (h 122) kd = _ := cSa_5 z4 z11
      refine ⟨fun q => by omega, fun q => by omega, fun _ => ?_⟩
      exact pX0_f zXf.rf (by rw [ec])
theorem r_safe (h : zHp) (D : Nat → Int) (hD : h 122 = D) (hb : dB D) (hst : D 2 < ((2 ^ nN D : Nat) : Int)) (kd : Int) : zCi mX12_safe 22 [zA 117, zI kd] h (fun v h' => sPo pM0 D kd h v h') := by
  refine z_enter [zA 117, zI kd, zU] (by decide +kernel) (Nat.le_of_ble_eq_true rfl) rfl (fun hra hrg => ?_)
  refine z_al0 eX12_safe_0 ?_
  refine z_ki eX12_safe_1 ?_
  refine z_pi eX12_safe_2 pX12_98 zs117 ?_
  refine z_al0 eX12_safe_5 ?_
  refine z_ki eX12_safe_6 ?_
  refine z_pi eX12_safe_7 pX12_101 zs117 ?_
  generalize hg : zup (zup h 117 1 0) 117 0 0 = g
  obtain ⟨ga, gf, g0⟩ := m_g hg
  have gD : g 122 = D := (ga 122 (by decide)).trans hD
  subst gD
  have hN := nN_eq hb
  have hS := nS_eq hb
  have hN8 := nN_le hb
  have hS20 := nS_le hb
  have hb2 := hb.2.2.1
  have ew : winNow (g 122) (g 122 2).toNat = wNow (g 122) := rfl
  have hwb := winNow_b hb (g 122 2).toNat
  rw [ew] at hwb
  refine z_il1 eX12_safe_10 ?_
  refine z_i2l eX12_safe_11 ?_
  refine z_kj eX12_safe_12 ?_
  refine z_kj eX12_safe_13 ?_
  refine zc_si3 eX12_safe_16 lX12_133 tX12_isIn (by decide) (Nat.le_of_ble_eq_true rfl) (r_isIn _ _ _ _) ?_
  rintro _ _ ⟨rfl, rfl⟩ -
  refine z_ine eX12_safe_19 rfl (fun c19 => ?_) (fun c19 => ?_)
  · have z19 := iteT c19
    refine z_il1 eX12_safe_35 ?_
    refine z_ki eX12_safe_36 ?_
    refine z_cle eX12_safe_37 rfl (fun c37 => ?_) (fun c37 => ?_)
    · refine z_al0 eX12_safe_58 ?_
      refine zc_vi0 eX12_safe_59 lX12_326 tX12_winnerNow zs117 (by decide) (Nat.le_of_ble_eq_true rfl) (r_winnerNow _ _ rfl hb (stL hb hst)) ?_
      rintro _ g1 ⟨rfl, hfr⟩ -
      rw [ew]
      have hmf : zMf g g1 := (zMf.rf.cA _ _ _).fr hfr (by decide) (fun _ => rfl)
      have d1 : g1 122 = g 122 := by rw [hfr 122 (by decide), cA_off (by decide) (by decide)]
      refine z_is2 eX12_safe_62 zn0 ?_
      refine z_il2 eX12_safe_63 ?_
      refine z_ige eX12_safe_64 rfl (fun c64 => ?_) (fun c64 => ?_)
      · refine z_al0 eX12_safe_74 ?_
        refine z_il2 eX12_safe_75 ?_
        refine z_ki eX12_safe_76 ?_
        refine z_il1 eX12_safe_77 ?_
        refine z_ki eX12_safe_78 ?_
        refine z_ki eX12_safe_79 ?_
        refine zc_vv5 eX12_safe_80 lX12_390 tX12_aim zs117 (by decide) (Nat.le_of_ble_eq_true rfl) (r_aim _ (wNow (g 122)) 0 kd 5 0 (Or.inl rfl) (Or.inl rfl)) ?_
        rintro _ rfl
        have hma : zMf g (zup (zup (zup (zup (zup g1 117 58 (wNow (g 122))) 117 56 0) 117 59 kd) 117 60 5) 117 57 0) := ((((hmf.up (by omega) (by omega) rfl).up (by omega) (by omega) rfl).up (by omega) (by omega) rfl).up (by omega) (by omega) rfl).up (by omega) (by omega) rfl
        refine z_il1 eX12_safe_83 ?_
        refine z_ki eX12_safe_84 ?_
        refine z_cge eX12_safe_85 rfl (fun c85 => ?_) (fun c85 => ?_)
        · refine z_al0 eX12_safe_95 ?_
          refine zc_vv0 eX12_safe_96 lX12_411 tX12_findPeople zs117 (by decide) (Nat.le_of_ble_eq_true rfl) (r_findP (g 122) hb hst (by omega) (wNow (g 122)) 0 kd 5 0 (by omega) (by omega) _ (by rw [zup_off (by decide), zup_off (by decide), zup_off (by decide), zup_off (by decide), zup_off (by decide)]; exact d1) (by rw [zup_ne (by decide), zup_ne (by decide), zup_ne (by decide), zup_ne (by decide), zup_at]) (by rw [zup_ne (by decide), zup_ne (by decide), zup_ne (by decide), zup_at]) (zup_at _ _ _ _) (by rw [zup_ne (by decide), zup_ne (by decide), zup_at]) (by rw [zup_ne (by decide), zup_at])) ?_
          rintro g2 ⟨HB, hmg, hd2⟩
          have hm2 := hma.tr hmg
          have R8 := isB_hi HB (by omega)
          refine z_al0 eX12_safe_99 ?_
          refine z_gi eX12_safe_100 fX12_354 zs117 ?_
          refine z_ige eX12_safe_103 rfl (fun c103 => ?_) (fun c103 => ?_)
          · refine z_al0 eX12_safe_120 ?_
            refine z_gi eX12_safe_121 fX12_354 zs117 ?_
            refine z_ki eX12_safe_124 ?_
            refine z_isubN eX12_safe_125 (by omega) (by omega) ?_
            refine ze_i eX12_safe_126 rfl ?_
            refine ⟨fun _ q => by omega, fun _ _ => ⟨_, _, _, HB, ?_⟩, fun q => absurd (cSa_p (by omega) (by omega) (by omega)) q⟩
            exact pM0_f hg hm2 (by unfold qSp; rw [if_neg (by omega)])
          · refine z_il1 eX12_safe_106 ?_
            refine z_ki eX12_safe_107 ?_
            refine z_cge eX12_safe_108 rfl (fun c108 => ?_) (fun c108 => ?_)
            · refine z_ki eX12_safe_116 ?_
              refine z_goto eX12_safe_117 rfl ?_
              refine ze_i eX12_safe_126 rfl ?_
              refine ⟨fun _ q => by omega, fun _ _ => ⟨_, _, _, HB, ?_⟩, fun q => absurd (cSa_p (by omega) (by omega) (by omega)) q⟩
              exact pM0_f hg hm2 (by unfold qSp; rw [if_pos (by omega)])
            · refine z_ki eX12_safe_111 ?_
              refine z_goto eX12_safe_113 rfl ?_
              refine ze_i eX12_safe_126 rfl ?_
              exfalso; omega
        · refine z_al0 eX12_safe_88 ?_
          refine zc_vv0 eX12_safe_89 lX12_394 tX12_findNames zs117 (by decide) (Nat.le_of_ble_eq_true rfl) (r_findN _ (g 122) (by rw [zup_off (by decide), zup_off (by decide), zup_off (by decide), zup_off (by decide), zup_off (by decide)]; exact d1) hb hst (wNow (g 122)) 0 kd 0 (by omega) (by rw [zup_ne (by decide), zup_ne (by decide), zup_ne (by decide), zup_ne (by decide), zup_at]) (by rw [zup_ne (by decide), zup_ne (by decide), zup_ne (by decide), zup_at]) (zup_at _ _ _ _) (by rw [zup_ne (by decide), zup_ne (by decide), zup_at])) ?_
          rintro g2 ⟨hmg, hd2, R⟩
          have hm2 := hma.tr hmg
          have R1 := R.1
          have R8 := nmF_hi (g 122) (wNow (g 122)) 0 kd 0 _ (p2le hN8)
          refine z_goto eX12_safe_92 rfl ?_
          refine z_al0 eX12_safe_99 ?_
          refine z_gi eX12_safe_100 fX12_354 zs117 ?_
          refine z_ige eX12_safe_103 rfl (fun c103 => ?_) (fun c103 => ?_)
          · refine z_al0 eX12_safe_120 ?_
            refine z_gi eX12_safe_121 fX12_354 zs117 ?_
            refine z_ki eX12_safe_124 ?_
            refine z_isubN eX12_safe_125 (by omega) (by omega) ?_
            refine ze_i eX12_safe_126 rfl ?_
            refine ⟨fun _ _ => ?_, fun _ q => by omega, fun q => absurd (cSa_n (by omega) (by omega)) q⟩
            exact pM0_f hg hm2 (by unfold qSn; rw [if_neg (by omega), ← R.1])
          · refine z_il1 eX12_safe_106 ?_
            refine z_ki eX12_safe_107 ?_
            refine z_cge eX12_safe_108 rfl (fun c108 => ?_) (fun c108 => ?_)
            · refine z_ki eX12_safe_116 ?_
              refine z_goto eX12_safe_117 rfl ?_
              refine ze_i eX12_safe_126 rfl ?_
              exfalso; omega
            · refine z_ki eX12_safe_111 ?_
              refine z_goto eX12_safe_113 rfl ?_
              refine ze_i eX12_safe_126 rfl ?_
              refine ⟨fun _ _ => ?_, fun _ q => by omega, fun q => absurd (cSa_n (by omega) (by omega)) q⟩
              exact pM0_f hg hm2 (by unfold qSn; rw [if_pos (by omega)])
      · refine z_al0 eX12_safe_67 ?_
        refine z_ki eX12_safe_68 ?_
        refine zc_vi1 eX12_safe_70 lX12_275 tX12_refuse zs117 (by decide) (Nat.le_of_ble_eq_true rfl) (r_refuse _ _) ?_
        rintro _ _ ⟨rfl, rfl⟩ -
        refine ze_i eX12_safe_73 rfl ?_
        have ec : cSa (g 122) kd = _ := cSa_8 (by omega) (by omega) (by omega)
        refine ⟨fun q => by omega, fun q => by omega, fun _ => ?_⟩
        exact pM0_fr hg hmf (by rw [ec])
    · refine z_al0 eX12_safe_40 ?_
      refine z_ga eX12_safe_41 fX12_35 zs117 (t := 122) rfl ?_
      refine z_ki eX12_safe_44 ?_
      refine zr_iN eX12_safe_45 zs122 (j := 1) (by omega) (by omega) ?_
      refine z_ki eX12_safe_46 ?_
      refine z_cle eX12_safe_48 rfl (fun c48 => ?_) (fun c48 => ?_)
      · refine z_al0 eX12_safe_58 ?_
        refine zc_vi0 eX12_safe_59 lX12_326 tX12_winnerNow zs117 (by decide) (Nat.le_of_ble_eq_true rfl) (r_winnerNow _ _ rfl hb (stL hb hst)) ?_
        rintro _ g1 ⟨rfl, hfr⟩ -
        rw [ew]
        have hmf : zMf g g1 := (zMf.rf.cA _ _ _).fr hfr (by decide) (fun _ => rfl)
        have d1 : g1 122 = g 122 := by rw [hfr 122 (by decide), cA_off (by decide) (by decide)]
        refine z_is2 eX12_safe_62 zn0 ?_
        refine z_il2 eX12_safe_63 ?_
        refine z_ige eX12_safe_64 rfl (fun c64 => ?_) (fun c64 => ?_)
        · refine z_al0 eX12_safe_74 ?_
          refine z_il2 eX12_safe_75 ?_
          refine z_ki eX12_safe_76 ?_
          refine z_il1 eX12_safe_77 ?_
          refine z_ki eX12_safe_78 ?_
          refine z_ki eX12_safe_79 ?_
          refine zc_vv5 eX12_safe_80 lX12_390 tX12_aim zs117 (by decide) (Nat.le_of_ble_eq_true rfl) (r_aim _ (wNow (g 122)) 0 kd 5 0 (Or.inl rfl) (Or.inl rfl)) ?_
          rintro _ rfl
          have hma : zMf g (zup (zup (zup (zup (zup g1 117 58 (wNow (g 122))) 117 56 0) 117 59 kd) 117 60 5) 117 57 0) := ((((hmf.up (by omega) (by omega) rfl).up (by omega) (by omega) rfl).up (by omega) (by omega) rfl).up (by omega) (by omega) rfl).up (by omega) (by omega) rfl
          refine z_il1 eX12_safe_83 ?_
          refine z_ki eX12_safe_84 ?_
          refine z_cge eX12_safe_85 rfl (fun c85 => ?_) (fun c85 => ?_)
          · refine z_al0 eX12_safe_95 ?_
            refine zc_vv0 eX12_safe_96 lX12_411 tX12_findPeople zs117 (by decide) (Nat.le_of_ble_eq_true rfl) (r_findP (g 122) hb hst (by omega) (wNow (g 122)) 0 kd 5 0 (by omega) (by omega) _ (by rw [zup_off (by decide), zup_off (by decide), zup_off (by decide), zup_off (by decide), zup_off (by decide)]; exact d1) (by rw [zup_ne (by decide), zup_ne (by decide), zup_ne (by decide), zup_ne (by decide), zup_at]) (by rw [zup_ne (by decide), zup_ne (by decide), zup_ne (by decide), zup_at]) (zup_at _ _ _ _) (by rw [zup_ne (by decide), zup_ne (by decide), zup_at]) (by rw [zup_ne (by decide), zup_at])) ?_
            rintro g2 ⟨HB, hmg, hd2⟩
            have hm2 := hma.tr hmg
            have R8 := isB_hi HB (by omega)
            refine z_al0 eX12_safe_99 ?_
            refine z_gi eX12_safe_100 fX12_354 zs117 ?_
            refine z_ige eX12_safe_103 rfl (fun c103 => ?_) (fun c103 => ?_)
            · refine z_al0 eX12_safe_120 ?_
              refine z_gi eX12_safe_121 fX12_354 zs117 ?_
              refine z_ki eX12_safe_124 ?_
              refine z_isubN eX12_safe_125 (by omega) (by omega) ?_
              refine ze_i eX12_safe_126 rfl ?_
              refine ⟨fun _ q => by omega, fun _ _ => ⟨_, _, _, HB, ?_⟩, fun q => absurd (cSa_p (by omega) (by omega) (by omega)) q⟩
              exact pM0_f hg hm2 (by unfold qSp; rw [if_neg (by omega)])
            · refine z_il1 eX12_safe_106 ?_
              refine z_ki eX12_safe_107 ?_
              refine z_cge eX12_safe_108 rfl (fun c108 => ?_) (fun c108 => ?_)
              · refine z_ki eX12_safe_116 ?_
                refine z_goto eX12_safe_117 rfl ?_
                refine ze_i eX12_safe_126 rfl ?_
                refine ⟨fun _ q => by omega, fun _ _ => ⟨_, _, _, HB, ?_⟩, fun q => absurd (cSa_p (by omega) (by omega) (by omega)) q⟩
                exact pM0_f hg hm2 (by unfold qSp; rw [if_pos (by omega)])
              · refine z_ki eX12_safe_111 ?_
                refine z_goto eX12_safe_113 rfl ?_
                refine ze_i eX12_safe_126 rfl ?_
                exfalso; omega
          · refine z_al0 eX12_safe_88 ?_
            refine zc_vv0 eX12_safe_89 lX12_394 tX12_findNames zs117 (by decide) (Nat.le_of_ble_eq_true rfl) (r_findN _ (g 122) (by rw [zup_off (by decide), zup_off (by decide), zup_off (by decide), zup_off (by decide), zup_off (by decide)]; exact d1) hb hst (wNow (g 122)) 0 kd 0 (by omega) (by rw [zup_ne (by decide), zup_ne (by decide), zup_ne (by decide), zup_ne (by decide), zup_at]) (by rw [zup_ne (by decide), zup_ne (by decide), zup_ne (by decide), zup_at]) (zup_at _ _ _ _) (by rw [zup_ne (by decide), zup_ne (by decide), zup_at])) ?_
            rintro g2 ⟨hmg, hd2, R⟩
            have hm2 := hma.tr hmg
            have R1 := R.1
            have R8 := nmF_hi (g 122) (wNow (g 122)) 0 kd 0 _ (p2le hN8)
            refine z_goto eX12_safe_92 rfl ?_
            refine z_al0 eX12_safe_99 ?_
            refine z_gi eX12_safe_100 fX12_354 zs117 ?_
            refine z_ige eX12_safe_103 rfl (fun c103 => ?_) (fun c103 => ?_)
            · refine z_al0 eX12_safe_120 ?_
              refine z_gi eX12_safe_121 fX12_354 zs117 ?_
              refine z_ki eX12_safe_124 ?_
              refine z_isubN eX12_safe_125 (by omega) (by omega) ?_
              refine ze_i eX12_safe_126 rfl ?_
              refine ⟨fun _ _ => ?_, fun _ q => by omega, fun q => absurd (cSa_n (by omega) (by omega)) q⟩
              exact pM0_f hg hm2 (by unfold qSn; rw [if_neg (by omega), ← R.1])
            · refine z_il1 eX12_safe_106 ?_
              refine z_ki eX12_safe_107 ?_
              refine z_cge eX12_safe_108 rfl (fun c108 => ?_) (fun c108 => ?_)
              · refine z_ki eX12_safe_116 ?_
                refine z_goto eX12_safe_117 rfl ?_
                refine ze_i eX12_safe_126 rfl ?_
                exfalso; omega
              · refine z_ki eX12_safe_111 ?_
                refine z_goto eX12_safe_113 rfl ?_
                refine ze_i eX12_safe_126 rfl ?_
                refine ⟨fun _ _ => ?_, fun _ q => by omega, fun q => absurd (cSa_n (by omega) (by omega)) q⟩
                exact pM0_f hg hm2 (by unfold qSn; rw [if_pos (by omega)])
        · refine z_al0 eX12_safe_67 ?_
          refine z_ki eX12_safe_68 ?_
          refine zc_vi1 eX12_safe_70 lX12_275 tX12_refuse zs117 (by decide) (Nat.le_of_ble_eq_true rfl) (r_refuse _ _) ?_
          rintro _ _ ⟨rfl, rfl⟩ -
          refine ze_i eX12_safe_73 rfl ?_
          have ec : cSa (g 122) kd = _ := cSa_8 (by omega) (by omega) (by omega)
          refine ⟨fun q => by omega, fun q => by omega, fun _ => ?_⟩
          exact pM0_fr hg hmf (by rw [ec])
      · refine z_al0 eX12_safe_51 ?_
        refine z_ki eX12_safe_52 ?_
        refine zc_vi1 eX12_safe_54 lX12_275 tX12_refuse zs117 (by decide) (Nat.le_of_ble_eq_true rfl) (r_refuse _ _) ?_
        rintro _ _ ⟨rfl, rfl⟩ -
        refine ze_i eX12_safe_57 rfl ?_
        have ec : cSa (g 122) kd = _ := cSa_7 (by omega) (by omega)
        refine ⟨fun q => by omega, fun q => by omega, fun _ => ?_⟩
        exact pM0_fr hg zMf.rf (by rw [ec])
  · have z19 := iteF c19
    refine z_il1 eX12_safe_22 ?_
    refine zc_si1 eX12_safe_23 lX12_406 tX12_isPeople (by decide) (Nat.le_of_ble_eq_true rfl) (r_isPeople _ _) ?_
    rintro _ _ ⟨rfl, rfl⟩ -
    refine z_ine eX12_safe_26 rfl (fun c26 => ?_) (fun c26 => ?_)
    · have z26 := iteT c26
      refine z_il1 eX12_safe_35 ?_
      refine z_ki eX12_safe_36 ?_
      refine z_cle eX12_safe_37 rfl (fun c37 => ?_) (fun c37 => ?_)
      · refine z_al0 eX12_safe_58 ?_
        refine zc_vi0 eX12_safe_59 lX12_326 tX12_winnerNow zs117 (by decide) (Nat.le_of_ble_eq_true rfl) (r_winnerNow _ _ rfl hb (stL hb hst)) ?_
        rintro _ g1 ⟨rfl, hfr⟩ -
        rw [ew]
        have hmf : zMf g g1 := (zMf.rf.cA _ _ _).fr hfr (by decide) (fun _ => rfl)
        have d1 : g1 122 = g 122 := by rw [hfr 122 (by decide), cA_off (by decide) (by decide)]
        refine z_is2 eX12_safe_62 zn0 ?_
        refine z_il2 eX12_safe_63 ?_
        refine z_ige eX12_safe_64 rfl (fun c64 => ?_) (fun c64 => ?_)
        · refine z_al0 eX12_safe_74 ?_
          refine z_il2 eX12_safe_75 ?_
          refine z_ki eX12_safe_76 ?_
          refine z_il1 eX12_safe_77 ?_
          refine z_ki eX12_safe_78 ?_
          refine z_ki eX12_safe_79 ?_
          refine zc_vv5 eX12_safe_80 lX12_390 tX12_aim zs117 (by decide) (Nat.le_of_ble_eq_true rfl) (r_aim _ (wNow (g 122)) 0 kd 5 0 (Or.inl rfl) (Or.inl rfl)) ?_
          rintro _ rfl
          have hma : zMf g (zup (zup (zup (zup (zup g1 117 58 (wNow (g 122))) 117 56 0) 117 59 kd) 117 60 5) 117 57 0) := ((((hmf.up (by omega) (by omega) rfl).up (by omega) (by omega) rfl).up (by omega) (by omega) rfl).up (by omega) (by omega) rfl).up (by omega) (by omega) rfl
          refine z_il1 eX12_safe_83 ?_
          refine z_ki eX12_safe_84 ?_
          refine z_cge eX12_safe_85 rfl (fun c85 => ?_) (fun c85 => ?_)
          · refine z_al0 eX12_safe_95 ?_
            refine zc_vv0 eX12_safe_96 lX12_411 tX12_findPeople zs117 (by decide) (Nat.le_of_ble_eq_true rfl) (r_findP (g 122) hb hst (by omega) (wNow (g 122)) 0 kd 5 0 (by omega) (by omega) _ (by rw [zup_off (by decide), zup_off (by decide), zup_off (by decide), zup_off (by decide), zup_off (by decide)]; exact d1) (by rw [zup_ne (by decide), zup_ne (by decide), zup_ne (by decide), zup_ne (by decide), zup_at]) (by rw [zup_ne (by decide), zup_ne (by decide), zup_ne (by decide), zup_at]) (zup_at _ _ _ _) (by rw [zup_ne (by decide), zup_ne (by decide), zup_at]) (by rw [zup_ne (by decide), zup_at])) ?_
            rintro g2 ⟨HB, hmg, hd2⟩
            have hm2 := hma.tr hmg
            have R8 := isB_hi HB (by omega)
            refine z_al0 eX12_safe_99 ?_
            refine z_gi eX12_safe_100 fX12_354 zs117 ?_
            refine z_ige eX12_safe_103 rfl (fun c103 => ?_) (fun c103 => ?_)
            · refine z_al0 eX12_safe_120 ?_
              refine z_gi eX12_safe_121 fX12_354 zs117 ?_
              refine z_ki eX12_safe_124 ?_
              refine z_isubN eX12_safe_125 (by omega) (by omega) ?_
              refine ze_i eX12_safe_126 rfl ?_
              refine ⟨fun _ q => by omega, fun _ _ => ⟨_, _, _, HB, ?_⟩, fun q => absurd (cSa_p (by omega) (by omega) (by omega)) q⟩
              exact pM0_f hg hm2 (by unfold qSp; rw [if_neg (by omega)])
            · refine z_il1 eX12_safe_106 ?_
              refine z_ki eX12_safe_107 ?_
              refine z_cge eX12_safe_108 rfl (fun c108 => ?_) (fun c108 => ?_)
              · refine z_ki eX12_safe_116 ?_
                refine z_goto eX12_safe_117 rfl ?_
                refine ze_i eX12_safe_126 rfl ?_
                refine ⟨fun _ q => by omega, fun _ _ => ⟨_, _, _, HB, ?_⟩, fun q => absurd (cSa_p (by omega) (by omega) (by omega)) q⟩
                exact pM0_f hg hm2 (by unfold qSp; rw [if_pos (by omega)])
              · refine z_ki eX12_safe_111 ?_
                refine z_goto eX12_safe_113 rfl ?_
                refine ze_i eX12_safe_126 rfl ?_
                exfalso; omega
          · refine z_al0 eX12_safe_88 ?_
            refine zc_vv0 eX12_safe_89 lX12_394 tX12_findNames zs117 (by decide) (Nat.le_of_ble_eq_true rfl) (r_findN _ (g 122) (by rw [zup_off (by decide), zup_off (by decide), zup_off (by decide), zup_off (by decide), zup_off (by decide)]; exact d1) hb hst (wNow (g 122)) 0 kd 0 (by omega) (by rw [zup_ne (by decide), zup_ne (by decide), zup_ne (by decide), zup_ne (by decide), zup_at]) (by rw [zup_ne (by decide), zup_ne (by decide), zup_ne (by decide), zup_at]) (zup_at _ _ _ _) (by rw [zup_ne (by decide), zup_ne (by decide), zup_at])) ?_
            rintro g2 ⟨hmg, hd2, R⟩
            have hm2 := hma.tr hmg
            have R1 := R.1
            have R8 := nmF_hi (g 122) (wNow (g 122)) 0 kd 0 _ (p2le hN8)
            refine z_goto eX12_safe_92 rfl ?_
            refine z_al0 eX12_safe_99 ?_
            refine z_gi eX12_safe_100 fX12_354 zs117 ?_
            refine z_ige eX12_safe_103 rfl (fun c103 => ?_) (fun c103 => ?_)
            · refine z_al0 eX12_safe_120 ?_
              refine z_gi eX12_safe_121 fX12_354 zs117 ?_
              refine z_ki eX12_safe_124 ?_
              refine z_isubN eX12_safe_125 (by omega) (by omega) ?_
              refine ze_i eX12_safe_126 rfl ?_
              refine ⟨fun _ _ => ?_, fun _ q => by omega, fun q => absurd (cSa_n (by omega) (by omega)) q⟩
              exact pM0_f hg hm2 (by unfold qSn; rw [if_neg (by omega), ← R.1])
            · refine z_il1 eX12_safe_106 ?_
              refine z_ki eX12_safe_107 ?_
              refine z_cge eX12_safe_108 rfl (fun c108 => ?_) (fun c108 => ?_)
              · refine z_ki eX12_safe_116 ?_
                refine z_goto eX12_safe_117 rfl ?_
                refine ze_i eX12_safe_126 rfl ?_
                exfalso; omega
              · refine z_ki eX12_safe_111 ?_
                refine z_goto eX12_safe_113 rfl ?_
                refine ze_i eX12_safe_126 rfl ?_
                refine ⟨fun _ _ => ?_, fun _ q => by omega, fun q => absurd (cSa_n (by omega) (by omega)) q⟩
                exact pM0_f hg hm2 (by unfold qSn; rw [if_pos (by omega)])
        · refine z_al0 eX12_safe_67 ?_
          refine z_ki eX12_safe_68 ?_
          refine zc_vi1 eX12_safe_70 lX12_275 tX12_refuse zs117 (by decide) (Nat.le_of_ble_eq_true rfl) (r_refuse _ _) ?_
          rintro _ _ ⟨rfl, rfl⟩ -
          refine ze_i eX12_safe_73 rfl ?_
          have ec : cSa (g 122) kd = _ := cSa_8 (by omega) (by omega) (by omega)
          refine ⟨fun q => by omega, fun q => by omega, fun _ => ?_⟩
          exact pM0_fr hg hmf (by rw [ec])
      · refine z_al0 eX12_safe_40 ?_
        refine z_ga eX12_safe_41 fX12_35 zs117 (t := 122) rfl ?_
        refine z_ki eX12_safe_44 ?_
        refine zr_iN eX12_safe_45 zs122 (j := 1) (by omega) (by omega) ?_
        refine z_ki eX12_safe_46 ?_
        refine z_cle eX12_safe_48 rfl (fun c48 => ?_) (fun c48 => ?_)
        · refine z_al0 eX12_safe_58 ?_
          refine zc_vi0 eX12_safe_59 lX12_326 tX12_winnerNow zs117 (by decide) (Nat.le_of_ble_eq_true rfl) (r_winnerNow _ _ rfl hb (stL hb hst)) ?_
          rintro _ g1 ⟨rfl, hfr⟩ -
          rw [ew]
          have hmf : zMf g g1 := (zMf.rf.cA _ _ _).fr hfr (by decide) (fun _ => rfl)
          have d1 : g1 122 = g 122 := by rw [hfr 122 (by decide), cA_off (by decide) (by decide)]
          refine z_is2 eX12_safe_62 zn0 ?_
          refine z_il2 eX12_safe_63 ?_
          refine z_ige eX12_safe_64 rfl (fun c64 => ?_) (fun c64 => ?_)
          · refine z_al0 eX12_safe_74 ?_
            refine z_il2 eX12_safe_75 ?_
            refine z_ki eX12_safe_76 ?_
            refine z_il1 eX12_safe_77 ?_
            refine z_ki eX12_safe_78 ?_
            refine z_ki eX12_safe_79 ?_
            refine zc_vv5 eX12_safe_80 lX12_390 tX12_aim zs117 (by decide) (Nat.le_of_ble_eq_true rfl) (r_aim _ (wNow (g 122)) 0 kd 5 0 (Or.inl rfl) (Or.inl rfl)) ?_
            rintro _ rfl
            have hma : zMf g (zup (zup (zup (zup (zup g1 117 58 (wNow (g 122))) 117 56 0) 117 59 kd) 117 60 5) 117 57 0) := ((((hmf.up (by omega) (by omega) rfl).up (by omega) (by omega) rfl).up (by omega) (by omega) rfl).up (by omega) (by omega) rfl).up (by omega) (by omega) rfl
            refine z_il1 eX12_safe_83 ?_
            refine z_ki eX12_safe_84 ?_
            refine z_cge eX12_safe_85 rfl (fun c85 => ?_) (fun c85 => ?_)
            · refine z_al0 eX12_safe_95 ?_
              refine zc_vv0 eX12_safe_96 lX12_411 tX12_findPeople zs117 (by decide) (Nat.le_of_ble_eq_true rfl) (r_findP (g 122) hb hst (by omega) (wNow (g 122)) 0 kd 5 0 (by omega) (by omega) _ (by rw [zup_off (by decide), zup_off (by decide), zup_off (by decide), zup_off (by decide), zup_off (by decide)]; exact d1) (by rw [zup_ne (by decide), zup_ne (by decide), zup_ne (by decide), zup_ne (by decide), zup_at]) (by rw [zup_ne (by decide), zup_ne (by decide), zup_ne (by decide), zup_at]) (zup_at _ _ _ _) (by rw [zup_ne (by decide), zup_ne (by decide), zup_at]) (by rw [zup_ne (by decide), zup_at])) ?_
              rintro g2 ⟨HB, hmg, hd2⟩
              have hm2 := hma.tr hmg
              have R8 := isB_hi HB (by omega)
              refine z_al0 eX12_safe_99 ?_
              refine z_gi eX12_safe_100 fX12_354 zs117 ?_
              refine z_ige eX12_safe_103 rfl (fun c103 => ?_) (fun c103 => ?_)
              · refine z_al0 eX12_safe_120 ?_
                refine z_gi eX12_safe_121 fX12_354 zs117 ?_
                refine z_ki eX12_safe_124 ?_
                refine z_isubN eX12_safe_125 (by omega) (by omega) ?_
                refine ze_i eX12_safe_126 rfl ?_
                refine ⟨fun _ q => by omega, fun _ _ => ⟨_, _, _, HB, ?_⟩, fun q => absurd (cSa_p (by omega) (by omega) (by omega)) q⟩
                exact pM0_f hg hm2 (by unfold qSp; rw [if_neg (by omega)])
              · refine z_il1 eX12_safe_106 ?_
                refine z_ki eX12_safe_107 ?_
                refine z_cge eX12_safe_108 rfl (fun c108 => ?_) (fun c108 => ?_)
                · refine z_ki eX12_safe_116 ?_
                  refine z_goto eX12_safe_117 rfl ?_
                  refine ze_i eX12_safe_126 rfl ?_
                  refine ⟨fun _ q => by omega, fun _ _ => ⟨_, _, _, HB, ?_⟩, fun q => absurd (cSa_p (by omega) (by omega) (by omega)) q⟩
                  exact pM0_f hg hm2 (by unfold qSp; rw [if_pos (by omega)])
                · refine z_ki eX12_safe_111 ?_
                  refine z_goto eX12_safe_113 rfl ?_
                  refine ze_i eX12_safe_126 rfl ?_
                  exfalso; omega
            · refine z_al0 eX12_safe_88 ?_
              refine zc_vv0 eX12_safe_89 lX12_394 tX12_findNames zs117 (by decide) (Nat.le_of_ble_eq_true rfl) (r_findN _ (g 122) (by rw [zup_off (by decide), zup_off (by decide), zup_off (by decide), zup_off (by decide), zup_off (by decide)]; exact d1) hb hst (wNow (g 122)) 0 kd 0 (by omega) (by rw [zup_ne (by decide), zup_ne (by decide), zup_ne (by decide), zup_ne (by decide), zup_at]) (by rw [zup_ne (by decide), zup_ne (by decide), zup_ne (by decide), zup_at]) (zup_at _ _ _ _) (by rw [zup_ne (by decide), zup_ne (by decide), zup_at])) ?_
              rintro g2 ⟨hmg, hd2, R⟩
              have hm2 := hma.tr hmg
              have R1 := R.1
              have R8 := nmF_hi (g 122) (wNow (g 122)) 0 kd 0 _ (p2le hN8)
              refine z_goto eX12_safe_92 rfl ?_
              refine z_al0 eX12_safe_99 ?_
              refine z_gi eX12_safe_100 fX12_354 zs117 ?_
              refine z_ige eX12_safe_103 rfl (fun c103 => ?_) (fun c103 => ?_)
              · refine z_al0 eX12_safe_120 ?_
                refine z_gi eX12_safe_121 fX12_354 zs117 ?_
                refine z_ki eX12_safe_124 ?_
                refine z_isubN eX12_safe_125 (by omega) (by omega) ?_
                refine ze_i eX12_safe_126 rfl ?_
                refine ⟨fun _ _ => ?_, fun _ q => by omega, fun q => absurd (cSa_n (by omega) (by omega)) q⟩
                exact pM0_f hg hm2 (by unfold qSn; rw [if_neg (by omega), ← R.1])
              · refine z_il1 eX12_safe_106 ?_
                refine z_ki eX12_safe_107 ?_
                refine z_cge eX12_safe_108 rfl (fun c108 => ?_) (fun c108 => ?_)
                · refine z_ki eX12_safe_116 ?_
                  refine z_goto eX12_safe_117 rfl ?_
                  refine ze_i eX12_safe_126 rfl ?_
                  exfalso; omega
                · refine z_ki eX12_safe_111 ?_
                  refine z_goto eX12_safe_113 rfl ?_
                  refine ze_i eX12_safe_126 rfl ?_
                  refine ⟨fun _ _ => ?_, fun _ q => by omega, fun q => absurd (cSa_n (by omega) (by omega)) q⟩
                  exact pM0_f hg hm2 (by unfold qSn; rw [if_pos (by omega)])
          · refine z_al0 eX12_safe_67 ?_
            refine z_ki eX12_safe_68 ?_
            refine zc_vi1 eX12_safe_70 lX12_275 tX12_refuse zs117 (by decide) (Nat.le_of_ble_eq_true rfl) (r_refuse _ _) ?_
            rintro _ _ ⟨rfl, rfl⟩ -
            refine ze_i eX12_safe_73 rfl ?_
            have ec : cSa (g 122) kd = _ := cSa_8 (by omega) (by omega) (by omega)
            refine ⟨fun q => by omega, fun q => by omega, fun _ => ?_⟩
            exact pM0_fr hg hmf (by rw [ec])
        · refine z_al0 eX12_safe_51 ?_
          refine z_ki eX12_safe_52 ?_
          refine zc_vi1 eX12_safe_54 lX12_275 tX12_refuse zs117 (by decide) (Nat.le_of_ble_eq_true rfl) (r_refuse _ _) ?_
          rintro _ _ ⟨rfl, rfl⟩ -
          refine ze_i eX12_safe_57 rfl ?_
          have ec : cSa (g 122) kd = _ := cSa_7 (by omega) (by omega)
          refine ⟨fun q => by omega, fun q => by omega, fun _ => ?_⟩
          exact pM0_fr hg zMf.rf (by rw [ec])
    · have z26 := iteF c26
      refine z_al0 eX12_safe_29 ?_
      refine z_ki eX12_safe_30 ?_
      refine zc_vi1 eX12_safe_31 lX12_275 tX12_refuse zs117 (by decide) (Nat.le_of_ble_eq_true rfl) (r_refuse _ _) ?_
      rintro _ _ ⟨rfl, rfl⟩ -
      refine ze_i eX12_safe_34 rfl ?_
      have ec : cSa (g 122) kd = _ := cSa_5 z19 z26
      refine ⟨fun q => by omega, fun q => by omega, fun _ => ?_⟩
      exact pM0_fr hg zMf.rf (by rw [ec])
theorem rel_safe {h h1 h2 : zHp} (H : Rel h) {kd : Int} {v v' : Int} (hx : sPo pX0 (h 122) kd h v h1) (hm : sPo pM0 (h 122) kd h1 v' h2) : rOut h v v' h2 := by
  by_cases c0 : cSa (h 122) kd = 0
  · by_cases c1 : kd ≤ 3
    · exact H.tell2 (hx.1 c0 c1) (hm.1 c0 c1)
    · obtain ⟨n, c, r, B1, X⟩ := hx.2.1 c0 (by omega)
      obtain ⟨n', c', r', B2, M⟩ := hm.2.1 c0 (by omega)
      obtain ⟨en, er⟩ := isB_one B1 B2
      subst en
      exact H.tell2 X M
  · exact H.tell2 (hx.2.2 c0) (hm.2.2 c0)
