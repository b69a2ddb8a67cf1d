-- who wins, firsts, beats, left, stand, voters, cousins (written by wip/tools/specR3.py)
theorem x_winD {g : zHp} {D : Nat → Int} (Hg : rHR g) (e : g 122 = D) (set : Nat) (hset : set < 2 ^ nN D) : zCi mX2_winnerOf 3 [zA 50, zI set, zA 9] g (fun v h' => winNow D set = v ∧ zFr 51 g h') := by
  subst e
  exact x_winN g Hg set hset
theorem x_marginN (h : zHp) (H : rHR h) (a b : Nat) (ha : a < nN (h 122)) (hbb : b < nN (h 122)) (hab : ¬ a = b) : zCi mX2_margin 0 [zA 50, zI a, zI b, zA 9] h (fun v h' => moreOf (h 122) (inOf (h 122)) a b = v ∧ h = h') :=
  have hw : ∀ s, s < nS (h 122) → inOf (h 122) s = h 9 s := fun s hs => ((H.1.2.2.2.2.2.2.1 s hs).1).symm
  zCi_wk (x_margin h (h 122) (h 9) (pX h 4) H.1.1 H.1.2.2.2.2.2.2.2.2 (hallR_hX H.1) (vB_congr hw (inOf_b H.1.1)) 9 rfl rfl a b ha hbb hab) (fun v h' q => ⟨(moreOf_congr hw a b).trans q.1, q.2⟩)
theorem x_firstsN (h : zHp) (H : rHR h) (k : Nat) (hk : k < 8) (set : Nat) (hset : set < 2 ^ nN (h 122)) (ht : set.testBit k = true) : zCi mX2_firstsOf 1 [zA 50, zI k, zI set, zA 9] h (fun v h' => fstOf (h 122) (inOf (h 122)) k set = v ∧ zFr 51 h h') :=
  have hw : ∀ s, s < nS (h 122) → inOf (h 122) s = h 9 s := fun s hs => ((H.1.2.2.2.2.2.2.1 s hs).1).symm
  zCi_wk (x_firstsOf (h 122) (h 9) (pX h 4) H.1.1 H.1.2.2.2.2.2.2.2.2 (vB_congr hw (inOf_b H.1.1)) 9 rfl (by decide) h (hallR_hX H.1) rfl k hk set hset) (fun v h' q => ⟨by
    have q1 := q.1
    unfold tly at q1
    rw [if_pos ht] at q1
    exact (fstOf_congr hw k set).trans q1, q.2⟩)
theorem x_leftN (h : zHp) (H : rHR h) (set : Nat) (hset : set < 2 ^ nN (h 122)) (n : Nat) (hn : (n : Int) ≤ h 122 240) : zCi mX2_leftOf 2 [zA 50, zI set, zA 9, zI n] h (fun v h' => (lftOf (h 122) (inOf (h 122)) (allV (h 122)) set n : Int) = v ∧ zFr 51 h h') :=
  have hw : ∀ s, s < nS (h 122) → inOf (h 122) s = h 9 s := fun s hs => ((H.1.2.2.2.2.2.2.1 s hs).1).symm
  zCi_wk (x_leftOf (h 122) (h 9) (pX h 4) H.1.1 H.1.2.2.2.2.2.2.2.2 (vB_congr hw (inOf_b H.1.1)) 9 rfl (by decide) h (hallR_hX H.1) (ruleR_rX H.2) rfl set hset n hn) (fun v h' q => ⟨by
    have q1 := q.1
    rw [← sumN_congr (nS (h 122)) hw, ← lftOf_congr hw] at q1
    exact q1, q.2⟩)
/-- the reference's row of voters is w -/
def mW (g : zHp) (D w : Nat → Int) : Prop := g 122 = D ∧ (∀ s, s < nS D → g 124 s = w s) ∧ g 117 25 = sumN w (nS D)
theorem mW.fr {g f : zHp} {D w : Nat → Int} (H : mW g D w) (F : zFr 125 g f) : mW f D w := by
  unfold mW
  rw [F 122 (by decide), F 124 (by decide), F 117 (by decide)]
  exact H
theorem mW_cA {h : zHp} {D : Nat → Int} (hD : h 122 = D) : mW (cA h D (nS D) (allV D)) D (inOf D) := ⟨(cA_off (by decide) (by decide)).trans hD, fun s hs => cA_v hs, cA_V⟩
theorem r_winM {h : zHp} {D w : Nat → Int} (H : mW h D w) (hb : dB D) (hvb : vB D w) (set : Nat) (hset : set < 2 ^ nN D) : zCi mX12_winner 6 [zA 117, zI set] h (fun v h' => winW D w set = v ∧ zFr 125 h h') := r_winW h D w H.1 hb hvb H.2.1 H.2.2 set hset
theorem r_moreM {h : zHp} {D w : Nat → Int} (H : mW h D w) (hb : dB D) (hvb : vB D w) (a b : Nat) (ha : a < 8) (hbb : b < 8) : zCi mX12_more 1 [zA 117, zI a, zI b] h (fun v h' => moreOf D w a b = v ∧ h = h') :=
  zCi_wk (r_more h D (h 124) H.1 rfl hb (vB_congr (fun s hs => (H.2.1 s hs).symm) hvb) a b ha hbb) (fun v h' q => ⟨(moreOf_congr (fun s hs => (H.2.1 s hs).symm) a b).trans q.1, q.2⟩)
theorem r_firstsM {h : zHp} {D w : Nat → Int} (H : mW h D w) (hb : dB D) (hvb : vB D w) (name : Int) (set : Nat) (hset : set < 2147483648) : zCi mX12_firstsOf 1 [zA 117, zI name, zI set] h (fun v h' => fstOf D w name set = v ∧ h = h') :=
  zCi_wk (r_firstsOf h D (h 124) H.1 rfl hb (vB_congr (fun s hs => (H.2.1 s hs).symm) hvb) name set hset) (fun v h' q => ⟨(fstOf_congr (fun s hs => (H.2.1 s hs).symm) name set).trans q.1, q.2⟩)
theorem r_leftM {h : zHp} {D w : Nat → Int} (H : mW h D w) (hb : dB D) (hvb : vB D w) (set : Nat) (hset : set < 2 ^ nN D) (n : Nat) (hn : n ≤ 4) : zCi mX12_leftOf 5 [zA 117, zI set, zI n] h (fun v h' => (lftOf D w (sumN w (nS D)) set n : Int) = v ∧ zFr 125 h h') :=
  zCi_wk (r_leftOf h D (h 124) H.1 rfl hb (vB_congr (fun s hs => (H.2.1 s hs).symm) hvb) (sumN w (nS D)) H.2.2 (vB_sum3960 hb hvb) set hset n hn) (fun v h' q => ⟨by rw [lftOf_congr (fun s hs => (H.2.1 s hs).symm)]; exact q.1, q.2⟩)
theorem kb_nbit {s k : Nat} (hk : k < 32) : zand (zshr (zxor (s : Int) (-1)) (k : Int)) 1 = if s.testBit k then 0 else 1 := by
  unfold zand zshr zxor
  have h1 : ∀ i, ¬ i = 0 → Nat.testBit 1 i = false := fun i h0 => Nat.testBit_lt_two_pow (Nat.one_lt_two_pow h0)
  rw [Int32.ofInt_toInt, Int32.ofInt_toInt, kb_nI, kb_nI, show ((nI s ^^^ Int32.ofInt (-1)) >>> (nI k &&& 31)) &&& Int32.ofInt 1 = nI (if s.testBit k then 0 else 1) from b_ext (fun i hi => by
    rw [b_and, b_sshr k hk _ hi, show Int32.ofInt 1 = nI 1 from rfl, kb_bt 1 _ hi, kb_bt _ _ hi]
    by_cases h0 : i = 0
    · subst h0
      rw [if_pos (by omega), b_xor, kb_m1 _ (by omega), Nat.add_zero, kb_bt _ _ hk]
      cases s.testBit k <;> decide
    · rw [h1 i h0, Bool.and_false]
      cases s.testBit k
      · exact (h1 i h0).symm
      · exact (Nat.zero_testBit i).symm)]
  cases s.testBit k <;> decide
def qWins (D : Nat → Int) : Int × Int := if winNow D (D 2).toNat < 0 then (-1, 8) else (winNow D (D 2).toNat, 0)
def qFirsts (D : Nat → Int) (k : Int) : Int × Int := if 0 ≤ k ∧ k < D 0 then (if bv (D 2).toNat k.toNat = 0 then (-1, 9) else (fstOf D (inOf D) k (D 2).toNat, 0)) else (-1, 2)
def qBeats (D : Nat → Int) (a b : Int) : Int × Int := if (0 ≤ a ∧ a < D 0) ∧ (0 ≤ b ∧ b < D 0) ∧ ¬ a = b then (moreOf D (inOf D) a.toNat b.toNat, 0) else (-1, 2)
def qLeft (D : Nat → Int) (n : Int) : Int × Int := if 0 ≤ n ∧ n ≤ D 240 then ((lftOf D (inOf D) (allV D) (D 2).toNat n.toNat : Int), 0) else (-1, 5)
def couP (D : Nat → Int) (a : Int) : Nat → Bool := fun k => !((D 2).toNat.testBit k) && (decide (¬ winNow D ((D 2).toNat ||| 2 ^ k) = a) && decide (¬ winNow D ((D 2).toNat ||| 2 ^ k) = (k : Int)))
def qCous (D : Nat → Int) : Int × Int := if winNow D (D 2).toNat < 0 then (-1, 8) else ((pickN (couP D (winNow D (D 2).toNat)) (nN D) : Int), 0)
theorem winNow_b {D : Nat → Int} (hb : dB D) (set : Nat) : -1 ≤ winNow D set ∧ winNow D set < nN D ∧ winNow D set < 8 := winOf_b hb _ _ set
theorem or_p2_lt {s n k : Nat} (hs : s < 2 ^ n) (hk : k < n) : s ||| 2 ^ k < 2 ^ n := Nat.or_lt_two_pow hs (Nat.pow_lt_pow_right (by omega) hk)
theorem x_wins (h : zHp) (H : rHR h) : zCi mX11_wins 4 [zA 0] h (fun v h' => pX0 h (qWins (h 122)) v h') := by
  refine z_enter [zA 0, zU] (by decide +kernel) (Nat.le_of_ble_eq_true rfl) rfl (fun hra hrg => ?_)
  obtain ⟨⟨hb, hst, e0, e1, e7, ek, es, eo, hp⟩, hru⟩ := id H
  have hN := nN_eq hb
  have hS := nS_eq hb
  have hN8 := nN_le hb
  have hS20 := nS_le hb
  have hb2 := hb.2.2.1
  refine z_al0 eX11_wins_0 ?_
  refine z_ga eX11_wins_1 fX11_65 zs0 (t := 50) rfl ?_
  refine z_al0 eX11_wins_4 ?_
  refine z_ga eX11_wins_5 fX11_25 zs0 (t := 4) rfl ?_
  refine z_gi eX11_wins_8 fX11_221 zs4 ?_
  refine z_al0 eX11_wins_11 ?_
  refine z_ga eX11_wins_12 fX11_25 zs0 (t := 4) rfl ?_
  refine z_ga eX11_wins_15 fX11_237 zs4 (t := 9) rfl ?_
  rw [e1, stN hb]
  refine zc_vi2 eX11_wins_18 lX11_249 tX2_winnerOf zs50 (by decide) (Nat.le_of_ble_eq_true rfl) (x_winN _ H _ (stL hb hst)) ?_
  rintro _ g ⟨rfl, hfr⟩ -
  have hwb := winNow_b hb (h 122 2).toNat
  have hxf : zXf h g := zXf.rf.fr hfr (by decide) (fun _ => rfl)
  refine z_is1 eX11_wins_21 zn2 ?_
  refine z_il1 eX11_wins_22 ?_
  refine z_ki eX11_wins_23 ?_
  refine z_cne eX11_wins_24 rfl (fun c24 => ?_) (fun c24 => ?_)
  · refine z_al0 eX11_wins_36 ?_
    refine z_il1 eX11_wins_37 ?_
    refine zc_vi1 eX11_wins_38 lX11_202 tX11_answer zs0 (by decide) (Nat.le_of_ble_eq_true rfl) (x_answer _ _) ?_
    rintro _ _ ⟨rfl, rfl⟩ -
    refine ze_i eX11_wins_41 rfl ?_
    exact pX0_f hxf (by unfold qWins; (repeat' split) <;> first | (exfalso; omega) | rfl)
  · refine z_al0 eX11_wins_27 ?_
    refine z_ki eX11_wins_28 ?_
    refine zc_vi1 eX11_wins_30 lX11_153 tX11_fail zs0 (by decide) (Nat.le_of_ble_eq_true rfl) (x_fail _ _) ?_
    rintro _ _ ⟨rfl, rfl⟩ -
    refine z_goto eX11_wins_33 rfl ?_
    refine ze_i eX11_wins_41 rfl ?_
    exact pX0_f hxf (by unfold qWins; (repeat' split) <;> first | (exfalso; omega) | rfl)
theorem r_wins (h : zHp) (D : Nat → Int) (hD : h 122 = D) (hb : dB D) (hst : D 2 < ((2 ^ nN D : Nat) : Int)) : zCi mX12_wins 8 [zA 117] h (fun v h' => pM0 h (qWins D) v h') := by
  refine z_enter [zA 117, zU] (by decide +kernel) (Nat.le_of_ble_eq_true rfl) rfl (fun hra hrg => ?_)
  refine z_al0 eX12_wins_0 ?_
  refine z_ki eX12_wins_1 ?_
  refine z_pi eX12_wins_2 pX12_98 zs117 ?_
  refine z_al0 eX12_wins_5 ?_
  refine z_ki eX12_wins_6 ?_
  refine z_pi eX12_wins_7 pX12_101 zs117 ?_
  generalize hg : zup (zup h 117 1 0) 117 0 0 = g
  obtain ⟨ga, gf, g0⟩ := m_g hg
  have gD : g 122 = D := (ga 122 (by decide)).trans hD
  subst gD
  have hN := nN_eq hb
  have hS := nS_eq hb
  have hN8 := nN_le hb
  have hS20 := nS_le hb
  have hb2 := hb.2.2.1
  refine z_al0 eX12_wins_10 ?_
  refine zc_vi0 eX12_wins_11 lX12_326 tX12_winnerNow zs117 (by decide) (Nat.le_of_ble_eq_true rfl) (r_winnerNow _ _ rfl hb (stL hb hst)) ?_
  rintro _ g1 ⟨rfl, hfr⟩ -
  have hmf : zMf g g1 := (zMf.rf.cA _ _ _).fr hfr (by decide) (fun _ => rfl)
  refine z_is1 eX12_wins_14 zn2 ?_
  refine z_il1 eX12_wins_15 ?_
  refine z_ige eX12_wins_16 rfl (fun c16 => ?_) (fun c16 => ?_)
  · refine z_il1 eX12_wins_28 ?_
    refine ze_i eX12_wins_29 rfl ?_
    exact pM0_f hg hmf (by unfold qWins; (repeat' split) <;> first | (exfalso; omega) | rfl)
  · refine z_al0 eX12_wins_19 ?_
    refine z_ki eX12_wins_20 ?_
    refine zc_vi1 eX12_wins_22 lX12_275 tX12_refuse zs117 (by decide) (Nat.le_of_ble_eq_true rfl) (r_refuse _ _) ?_
    rintro _ _ ⟨rfl, rfl⟩ -
    refine z_goto eX12_wins_25 rfl ?_
    refine ze_i eX12_wins_29 rfl ?_
    exact pM0_fr hg hmf (by unfold qWins; (repeat' split) <;> first | (exfalso; omega) | rfl)
theorem x_firsts (h : zHp) (H : rHR h) (k : Int) : zCi mX11_firsts 2 [zA 0, zI k] h (fun v h' => pX0 h (qFirsts (h 122) k) v h') := by
  refine z_enter [zA 0, zI k] (by decide +kernel) (Nat.le_of_ble_eq_true rfl) rfl (fun hra hrg => ?_)
  obtain ⟨⟨hb, hst, e0, e1, e7, ek, es, eo, hp⟩, hru⟩ := id H
  have hN := nN_eq hb
  have hS := nS_eq hb
  have hN8 := nN_le hb
  have hS20 := nS_le hb
  have hb2 := hb.2.2.1
  refine z_al0 eX11_firsts_0 ?_
  refine z_il1 eX11_firsts_1 ?_
  refine zc_vi1 eX11_firsts_2 lX11_224 tX11_isName zs0 (by decide) (Nat.le_of_ble_eq_true rfl) (x_isName _ H _) ?_
  rintro _ _ ⟨rfl, rfl⟩ -
  refine z_ine eX11_firsts_5 rfl (fun c5 => ?_) (fun c5 => ?_)
  · have z5 := iteT c5
    obtain ⟨k, rfl⟩ := Int.eq_ofNat_of_zero_le z5.1
    refine z_al0 eX11_firsts_14 ?_
    refine z_ga eX11_firsts_15 fX11_25 zs0 (t := 4) rfl ?_
    refine z_gi eX11_firsts_18 fX11_221 zs4 ?_
    refine z_il1 eX11_firsts_21 ?_
    refine z_ishr eX11_firsts_22 ?_
    refine z_ki eX11_firsts_23 ?_
    refine z_iand eX11_firsts_24 ?_
    rw [zbit (by omega) (by omega) (by omega) (by omega), e1]
    refine z_ine eX11_firsts_25 rfl (fun c25 => ?_) (fun c25 => ?_)
    · refine z_al0 eX11_firsts_35 ?_
      refine z_al0 eX11_firsts_36 ?_
      refine z_ga eX11_firsts_37 fX11_65 zs0 (t := 50) rfl ?_
      refine z_il1 eX11_firsts_40 ?_
      refine z_al0 eX11_firsts_41 ?_
      refine z_ga eX11_firsts_42 fX11_25 zs0 (t := 4) rfl ?_
      refine z_gi eX11_firsts_45 fX11_221 zs4 ?_
      refine z_al0 eX11_firsts_48 ?_
      refine z_ga eX11_firsts_49 fX11_25 zs0 (t := 4) rfl ?_
      refine z_ga eX11_firsts_52 fX11_237 zs4 (t := 9) rfl ?_
      rw [e1, stN hb]
      refine zc_vi3 eX11_firsts_55 lX11_253 tX2_firstsOf zs50 (by decide) (Nat.le_of_ble_eq_true rfl) (x_firstsN _ H k (by omega) _ (stL hb hst) (bv_T c25)) ?_
      rintro _ g ⟨rfl, hfr⟩ -
      have hxf : zXf h g := zXf.rf.fr hfr (by decide) (fun _ => rfl)
      refine zc_vi1 eX11_firsts_58 lX11_202 tX11_answer zs0 (by decide) (Nat.le_of_ble_eq_true rfl) (x_answer _ _) ?_
      rintro _ _ ⟨rfl, rfl⟩ -
      refine ze_i eX11_firsts_61 rfl ?_
      exact pX0_f hxf (by unfold qFirsts; (repeat' split) <;> first | (exfalso; omega) | rfl)
    · refine z_al0 eX11_firsts_28 ?_
      refine z_ki eX11_firsts_29 ?_
      refine zc_vi1 eX11_firsts_31 lX11_153 tX11_fail zs0 (by decide) (Nat.le_of_ble_eq_true rfl) (x_fail _ _) ?_
      rintro _ _ ⟨rfl, rfl⟩ -
      refine ze_i eX11_firsts_34 rfl ?_
      exact pX0_f zXf.rf (by unfold qFirsts; (repeat' split) <;> first | (exfalso; omega) | rfl)
  · have z5 := iteF c5
    refine z_al0 eX11_firsts_8 ?_
    refine z_ki eX11_firsts_9 ?_
    refine zc_vi1 eX11_firsts_10 lX11_153 tX11_fail zs0 (by decide) (Nat.le_of_ble_eq_true rfl) (x_fail _ _) ?_
    rintro _ _ ⟨rfl, rfl⟩ -
    refine ze_i eX11_firsts_13 rfl ?_
    exact pX0_f zXf.rf (by unfold qFirsts; (repeat' split) <;> first | (exfalso; omega) | rfl)
theorem r_firsts (h : zHp) (D : Nat → Int) (hD : h 122 = D) (hb : dB D) (hst : D 2 < ((2 ^ nN D : Nat) : Int)) (k : Int) : zCi mX12_firsts 2 [zA 117, zI k] h (fun v h' => pM0 h (qFirsts D k) v h') := by
  refine z_enter [zA 117, zI k] (by decide +kernel) (Nat.le_of_ble_eq_true rfl) rfl (fun hra hrg => ?_)
  refine z_al0 eX12_firsts_0 ?_
  refine z_ki eX12_firsts_1 ?_
  refine z_pi eX12_firsts_2 pX12_98 zs117 ?_
  refine z_al0 eX12_firsts_5 ?_
  refine z_ki eX12_firsts_6 ?_
  refine z_pi eX12_firsts_7 pX12_101 zs117 ?_
  generalize hg : zup (zup h 117 1 0) 117 0 0 = g
  obtain ⟨ga, gf, g0⟩ := m_g hg
  have gD : g 122 = D := (ga 122 (by decide)).trans hD
  subst gD
  have hN := nN_eq hb
  have hS := nS_eq hb
  have hN8 := nN_le hb
  have hS20 := nS_le hb
  have hb2 := hb.2.2.1
  refine z_al0 eX12_firsts_10 ?_
  refine z_il1 eX12_firsts_11 ?_
  refine zc_vi1 eX12_firsts_12 lX12_278 tX12_isName zs117 (by decide) (Nat.le_of_ble_eq_true rfl) (r_isName _ _ rfl hb _) ?_
  rintro _ _ ⟨rfl, rfl⟩ -
  refine z_ine eX12_firsts_15 rfl (fun c15 => ?_) (fun c15 => ?_)
  · have z15 := iteT c15
    refine z_al0 eX12_firsts_24 ?_
    refine z_ga eX12_firsts_25 fX12_35 zs117 (t := 122) rfl ?_
    refine z_ki eX12_firsts_28 ?_
    refine zr_iN eX12_firsts_29 zs122 (j := 2) (by omega) (by omega) ?_
    refine z_il1 eX12_firsts_30 ?_
    refine z_ishr eX12_firsts_31 ?_
    refine z_ki eX12_firsts_32 ?_
    refine z_iand eX12_firsts_33 ?_
    rw [zbit (by omega) (by omega) (by omega) (by omega)]
    refine z_ine eX12_firsts_34 rfl (fun c34 => ?_) (fun c34 => ?_)
    · refine z_al0 eX12_firsts_44 ?_
      refine zc_vv0 eX12_firsts_45 lX12_320 tX12_countAll zs117 (by decide) (Nat.le_of_ble_eq_true rfl) (r_countAll _ _ rfl hb) ?_
      rintro _ rfl
      refine z_al0 eX12_firsts_48 ?_
      refine z_il1 eX12_firsts_49 ?_
      refine z_al0 eX12_firsts_50 ?_
      refine z_ga eX12_firsts_51 fX12_35 zs117 (t := 122) rfl ?_
      refine z_ki eX12_firsts_54 ?_
      refine zr_iN eX12_firsts_55 zs122 (j := 2) (by omega) (by omega) ?_
      rw [show cA g (g 122) (nS (g 122)) (allV (g 122)) 122 2 = ((g 122 2).toNat : Int) by rw [cA_off (by decide) (by decide)]; exact stN hb]
      refine zc_vi2 eX12_firsts_56 lX12_302 tX12_firstsOf zs117 (by decide) (Nat.le_of_ble_eq_true rfl) (r_firstsM (mW_cA rfl) hb (inOf_b hb) k (g 122 2).toNat (by omega)) ?_
      rintro _ _ ⟨rfl, rfl⟩ -
      refine ze_i eX12_firsts_59 rfl ?_
      exact pM0_f hg (zMf.rf.cA _ _ _) (by unfold qFirsts; (repeat' split) <;> first | (exfalso; omega) | rfl)
    · refine z_al0 eX12_firsts_37 ?_
      refine z_ki eX12_firsts_38 ?_
      refine zc_vi1 eX12_firsts_40 lX12_275 tX12_refuse zs117 (by decide) (Nat.le_of_ble_eq_true rfl) (r_refuse _ _) ?_
      rintro _ _ ⟨rfl, rfl⟩ -
      refine ze_i eX12_firsts_43 rfl ?_
      exact pM0_fr hg zMf.rf (by unfold qFirsts; (repeat' split) <;> first | (exfalso; omega) | rfl)
  · have z15 := iteF c15
    refine z_al0 eX12_firsts_18 ?_
    refine z_ki eX12_firsts_19 ?_
    refine zc_vi1 eX12_firsts_20 lX12_275 tX12_refuse zs117 (by decide) (Nat.le_of_ble_eq_true rfl) (r_refuse _ _) ?_
    rintro _ _ ⟨rfl, rfl⟩ -
    refine ze_i eX12_firsts_23 rfl ?_
    exact pM0_fr hg zMf.rf (by unfold qFirsts; (repeat' split) <;> first | (exfalso; omega) | rfl)
theorem x_beatsC (h : zHp) (H : rHR h) (a b : Int) : zCi mX11_beats 1 [zA 0, zI a, zI b] h (fun v h' => pX0 h (qBeats (h 122) a b) v h') := by
  refine z_enter [zA 0, zI a, zI b] (by decide +kernel) (Nat.le_of_ble_eq_true rfl) rfl (fun hra hrg => ?_)
  obtain ⟨⟨hb, hst, e0, e1, e7, ek, es, eo, hp⟩, hru⟩ := id H
  have hN := nN_eq hb
  have hS := nS_eq hb
  have hN8 := nN_le hb
  have hS20 := nS_le hb
  have hb2 := hb.2.2.1
  refine z_al0 eX11_beats_0 ?_
  refine z_il1 eX11_beats_1 ?_
  refine zc_vi1 eX11_beats_2 lX11_224 tX11_isName zs0 (by decide) (Nat.le_of_ble_eq_true rfl) (x_isName _ H _) ?_
  rintro _ _ ⟨rfl, rfl⟩ -
  refine z_ieq eX11_beats_5 rfl (fun c5 => ?_) (fun c5 => ?_)
  · have z5 := iteF c5
    refine z_al0 eX11_beats_21 ?_
    refine z_ki eX11_beats_22 ?_
    refine zc_vi1 eX11_beats_23 lX11_153 tX11_fail zs0 (by decide) (Nat.le_of_ble_eq_true rfl) (x_fail _ _) ?_
    rintro _ _ ⟨rfl, rfl⟩ -
    refine ze_i eX11_beats_26 rfl ?_
    exact pX0_f zXf.rf (by unfold qBeats; (repeat' split) <;> first | (exfalso; omega) | rfl)
  · have z5 := iteT c5
    refine z_al0 eX11_beats_8 ?_
    refine z_il2 eX11_beats_9 ?_
    refine zc_vi1 eX11_beats_10 lX11_224 tX11_isName zs0 (by decide) (Nat.le_of_ble_eq_true rfl) (x_isName _ H _) ?_
    rintro _ _ ⟨rfl, rfl⟩ -
    refine z_ieq eX11_beats_13 rfl (fun c13 => ?_) (fun c13 => ?_)
    · have z13 := iteF c13
      refine z_al0 eX11_beats_21 ?_
      refine z_ki eX11_beats_22 ?_
      refine zc_vi1 eX11_beats_23 lX11_153 tX11_fail zs0 (by decide) (Nat.le_of_ble_eq_true rfl) (x_fail _ _) ?_
      rintro _ _ ⟨rfl, rfl⟩ -
      refine ze_i eX11_beats_26 rfl ?_
      exact pX0_f zXf.rf (by unfold qBeats; (repeat' split) <;> first | (exfalso; omega) | rfl)
    · have z13 := iteT c13
      refine z_il1 eX11_beats_16 ?_
      refine z_il2 eX11_beats_17 ?_
      refine z_cne eX11_beats_18 rfl (fun c18 => ?_) (fun c18 => ?_)
      · obtain ⟨a, rfl⟩ := Int.eq_ofNat_of_zero_le z5.1
        obtain ⟨b, rfl⟩ := Int.eq_ofNat_of_zero_le z13.1
        refine z_al0 eX11_beats_27 ?_
        refine z_al0 eX11_beats_28 ?_
        refine z_ga eX11_beats_29 fX11_65 zs0 (t := 50) rfl ?_
        refine z_il1 eX11_beats_32 ?_
        refine z_il2 eX11_beats_33 ?_
        refine z_al0 eX11_beats_34 ?_
        refine z_ga eX11_beats_35 fX11_25 zs0 (t := 4) rfl ?_
        refine z_ga eX11_beats_38 fX11_237 zs4 (t := 9) rfl ?_
        refine zc_vi3 eX11_beats_41 lX11_257 tX2_margin zs50 (by decide) (Nat.le_of_ble_eq_true rfl) (x_marginN _ H a b (by omega) (by omega) (by omega)) ?_
        rintro _ _ ⟨rfl, rfl⟩ -
        refine zc_vi1 eX11_beats_44 lX11_202 tX11_answer zs0 (by decide) (Nat.le_of_ble_eq_true rfl) (x_answer _ _) ?_
        rintro _ _ ⟨rfl, rfl⟩ -
        refine ze_i eX11_beats_47 rfl ?_
        exact pX0_f zXf.rf (by unfold qBeats; (repeat' split) <;> first | (exfalso; omega) | rfl | (rw [Int.toNat_natCast, Int.toNat_natCast]; done))
      · refine z_al0 eX11_beats_21 ?_
        refine z_ki eX11_beats_22 ?_
        refine zc_vi1 eX11_beats_23 lX11_153 tX11_fail zs0 (by decide) (Nat.le_of_ble_eq_true rfl) (x_fail _ _) ?_
        rintro _ _ ⟨rfl, rfl⟩ -
        refine ze_i eX11_beats_26 rfl ?_
        exact pX0_f zXf.rf (by unfold qBeats; (repeat' split) <;> first | (exfalso; omega) | rfl)
theorem r_beatsC (h : zHp) (D : Nat → Int) (hD : h 122 = D) (hb : dB D) (hst : D 2 < ((2 ^ nN D : Nat) : Int)) (a b : Int) : zCi mX12_beats 2 [zA 117, zI a, zI b] h (fun v h' => pM0 h (qBeats D a b) v h') := by
  refine z_enter [zA 117, zI a, zI b] (by decide +kernel) (Nat.le_of_ble_eq_true rfl) rfl (fun hra hrg => ?_)
  refine z_al0 eX12_beats_0 ?_
  refine z_ki eX12_beats_1 ?_
  refine z_pi eX12_beats_2 pX12_98 zs117 ?_
  refine z_al0 eX12_beats_5 ?_
  refine z_ki eX12_beats_6 ?_
  refine z_pi eX12_beats_7 pX12_101 zs117 ?_
  generalize hg : zup (zup h 117 1 0) 117 0 0 = g
  obtain ⟨ga, gf, g0⟩ := m_g hg
  have gD : g 122 = D := (ga 122 (by decide)).trans hD
  subst gD
  have hN := nN_eq hb
  have hS := nS_eq hb
  have hN8 := nN_le hb
  have hS20 := nS_le hb
  have hb2 := hb.2.2.1
  refine z_al0 eX12_beats_10 ?_
  refine z_il1 eX12_beats_11 ?_
  refine zc_vi1 eX12_beats_12 lX12_278 tX12_isName zs117 (by decide) (Nat.le_of_ble_eq_true rfl) (r_isName _ _ rfl hb _) ?_
  rintro _ _ ⟨rfl, rfl⟩ -
  refine z_ieq eX12_beats_15 rfl (fun c15 => ?_) (fun c15 => ?_)
  · have z15 := iteF c15
    refine z_al0 eX12_beats_31 ?_
    refine z_ki eX12_beats_32 ?_
    refine zc_vi1 eX12_beats_33 lX12_275 tX12_refuse zs117 (by decide) (Nat.le_of_ble_eq_true rfl) (r_refuse _ _) ?_
    rintro _ _ ⟨rfl, rfl⟩ -
    refine ze_i eX12_beats_36 rfl ?_
    exact pM0_fr hg zMf.rf (by unfold qBeats; (repeat' split) <;> first | (exfalso; omega) | rfl)
  · have z15 := iteT c15
    refine z_al0 eX12_beats_18 ?_
    refine z_il2 eX12_beats_19 ?_
    refine zc_vi1 eX12_beats_20 lX12_278 tX12_isName zs117 (by decide) (Nat.le_of_ble_eq_true rfl) (r_isName _ _ rfl hb _) ?_
    rintro _ _ ⟨rfl, rfl⟩ -
    refine z_ieq eX12_beats_23 rfl (fun c23 => ?_) (fun c23 => ?_)
    · have z23 := iteF c23
      refine z_al0 eX12_beats_31 ?_
      refine z_ki eX12_beats_32 ?_
      refine zc_vi1 eX12_beats_33 lX12_275 tX12_refuse zs117 (by decide) (Nat.le_of_ble_eq_true rfl) (r_refuse _ _) ?_
      rintro _ _ ⟨rfl, rfl⟩ -
      refine ze_i eX12_beats_36 rfl ?_
      exact pM0_fr hg zMf.rf (by unfold qBeats; (repeat' split) <;> first | (exfalso; omega) | rfl)
    · have z23 := iteT c23
      refine z_il1 eX12_beats_26 ?_
      refine z_il2 eX12_beats_27 ?_
      refine z_cne eX12_beats_28 rfl (fun c28 => ?_) (fun c28 => ?_)
      · obtain ⟨a, rfl⟩ := Int.eq_ofNat_of_zero_le z15.1
        obtain ⟨b, rfl⟩ := Int.eq_ofNat_of_zero_le z23.1
        refine z_al0 eX12_beats_37 ?_
        refine zc_vv0 eX12_beats_38 lX12_320 tX12_countAll zs117 (by decide) (Nat.le_of_ble_eq_true rfl) (r_countAll _ _ rfl hb) ?_
        rintro _ rfl
        refine z_al0 eX12_beats_41 ?_
        refine z_il1 eX12_beats_42 ?_
        refine z_il2 eX12_beats_43 ?_
        refine zc_vi2 eX12_beats_44 lX12_308 tX12_more zs117 (by decide) (Nat.le_of_ble_eq_true rfl) (r_moreM (mW_cA rfl) hb (inOf_b hb) a b (by omega) (by omega)) ?_
        rintro _ _ ⟨rfl, rfl⟩ -
        refine ze_i eX12_beats_47 rfl ?_
        exact pM0_f hg (zMf.rf.cA _ _ _) (by unfold qBeats; (repeat' split) <;> first | (exfalso; omega) | rfl | (rw [Int.toNat_natCast, Int.toNat_natCast]; done))
      · refine z_al0 eX12_beats_31 ?_
        refine z_ki eX12_beats_32 ?_
        refine zc_vi1 eX12_beats_33 lX12_275 tX12_refuse zs117 (by decide) (Nat.le_of_ble_eq_true rfl) (r_refuse _ _) ?_
        rintro _ _ ⟨rfl, rfl⟩ -
        refine ze_i eX12_beats_36 rfl ?_
        exact pM0_fr hg zMf.rf (by unfold qBeats; (repeat' split) <;> first | (exfalso; omega) | rfl)
theorem x_left (h : zHp) (H : rHR h) (n : Int) : zCi mX11_left 3 [zA 0, zI n] h (fun v h' => pX0 h (qLeft (h 122) n) v h') := by
  refine z_enter [zA 0, zI n] (by decide +kernel) (Nat.le_of_ble_eq_true rfl) rfl (fun hra hrg => ?_)
  obtain ⟨⟨hb, hst, e0, e1, e7, ek, es, eo, hp⟩, hru⟩ := id H
  have hN := nN_eq hb
  have hS := nS_eq hb
  have hN8 := nN_le hb
  have hS20 := nS_le hb
  have hb2 := hb.2.2.1
  have hr0 := hru.1
  refine z_il1 eX11_left_0 ?_
  refine z_ilt eX11_left_1 rfl (fun c1 => ?_) (fun c1 => ?_)
  · refine z_al0 eX11_left_15 ?_
    refine z_ki eX11_left_16 ?_
    refine zc_vi1 eX11_left_17 lX11_153 tX11_fail zs0 (by decide) (Nat.le_of_ble_eq_true rfl) (x_fail _ _) ?_
    rintro _ _ ⟨rfl, rfl⟩ -
    refine ze_i eX11_left_20 rfl ?_
    exact pX0_f zXf.rf (by unfold qLeft; (repeat' split) <;> first | (exfalso; omega) | rfl)
  · refine z_il1 eX11_left_4 ?_
    refine z_al0 eX11_left_5 ?_
    refine z_ga eX11_left_6 fX11_35 zs0 (t := 24) rfl ?_
    refine z_gi eX11_left_9 fX11_209 zs24 ?_
    refine z_cle eX11_left_12 rfl (fun c12 => ?_) (fun c12 => ?_)
    · obtain ⟨n, rfl⟩ := Int.eq_ofNat_of_zero_le (show 0 ≤ n by omega)
      refine z_al0 eX11_left_21 ?_
      refine z_al0 eX11_left_22 ?_
      refine z_ga eX11_left_23 fX11_65 zs0 (t := 50) rfl ?_
      refine z_al0 eX11_left_26 ?_
      refine z_ga eX11_left_27 fX11_25 zs0 (t := 4) rfl ?_
      refine z_gi eX11_left_30 fX11_221 zs4 ?_
      refine z_al0 eX11_left_33 ?_
      refine z_ga eX11_left_34 fX11_25 zs0 (t := 4) rfl ?_
      refine z_ga eX11_left_37 fX11_237 zs4 (t := 9) rfl ?_
      rw [e1, stN hb]
      refine z_il1 eX11_left_40 ?_
      refine zc_vi3 eX11_left_41 lX11_260 tX2_leftOf zs50 (by decide) (Nat.le_of_ble_eq_true rfl) (x_leftN _ H _ (stL hb hst) n (by omega)) ?_
      rintro _ g ⟨rfl, hfr⟩ -
      have hxf : zXf h g := zXf.rf.fr hfr (by decide) (fun _ => rfl)
      refine zc_vi1 eX11_left_44 lX11_202 tX11_answer zs0 (by decide) (Nat.le_of_ble_eq_true rfl) (x_answer _ _) ?_
      rintro _ _ ⟨rfl, rfl⟩ -
      refine ze_i eX11_left_47 rfl ?_
      exact pX0_f hxf (by unfold qLeft; (repeat' split) <;> first | (exfalso; omega) | rfl | (rw [Int.toNat_natCast]; done))
    · refine z_al0 eX11_left_15 ?_
      refine z_ki eX11_left_16 ?_
      refine zc_vi1 eX11_left_17 lX11_153 tX11_fail zs0 (by decide) (Nat.le_of_ble_eq_true rfl) (x_fail _ _) ?_
      rintro _ _ ⟨rfl, rfl⟩ -
      refine ze_i eX11_left_20 rfl ?_
      exact pX0_f zXf.rf (by unfold qLeft; (repeat' split) <;> first | (exfalso; omega) | rfl)
theorem r_left (h : zHp) (D : Nat → Int) (hD : h 122 = D) (hb : dB D) (hst : D 2 < ((2 ^ nN D : Nat) : Int)) (n : Int) : zCi mX12_left 6 [zA 117, zI n] h (fun v h' => pM0 h (qLeft D n) v h') := by
  refine z_enter [zA 117, zI n] (by decide +kernel) (Nat.le_of_ble_eq_true rfl) rfl (fun hra hrg => ?_)
  refine z_al0 eX12_left_0 ?_
  refine z_ki eX12_left_1 ?_
  refine z_pi eX12_left_2 pX12_98 zs117 ?_
  refine z_al0 eX12_left_5 ?_
  refine z_ki eX12_left_6 ?_
  refine z_pi eX12_left_7 pX12_101 zs117 ?_
  generalize hg : zup (zup h 117 1 0) 117 0 0 = g
  obtain ⟨ga, gf, g0⟩ := m_g hg
  have gD : g 122 = D := (ga 122 (by decide)).trans hD
  subst gD
  have hN := nN_eq hb
  have hS := nS_eq hb
  have hN8 := nN_le hb
  have hS20 := nS_le hb
  have hb2 := hb.2.2.1
  have hcl := hb.2.2.2.2.2.2.1
  refine z_il1 eX12_left_10 ?_
  refine z_i2l eX12_left_11 ?_
  refine z_kj eX12_left_12 ?_
  refine z_al0 eX12_left_13 ?_
  refine z_ga eX12_left_14 fX12_35 zs117 (t := 122) rfl ?_
  refine z_ki eX12_left_17 ?_
  refine zr_iN eX12_left_20 zs122 (j := 240) (by omega) (by omega) ?_
  refine z_i2l eX12_left_21 ?_
  refine zc_si3 eX12_left_22 lX12_133 tX12_isIn (by decide) (Nat.le_of_ble_eq_true rfl) (r_isIn _ _ _ _) ?_
  rintro _ _ ⟨rfl, rfl⟩ -
  refine z_ine eX12_left_25 rfl (fun c25 => ?_) (fun c25 => ?_)
  · have z25 := iteT c25
    obtain ⟨n, rfl⟩ := Int.eq_ofNat_of_zero_le z25.1
    refine z_al0 eX12_left_34 ?_
    refine zc_vv0 eX12_left_35 lX12_320 tX12_countAll zs117 (by decide) (Nat.le_of_ble_eq_true rfl) (r_countAll _ _ rfl hb) ?_
    rintro _ rfl
    refine z_al0 eX12_left_38 ?_
    refine z_al0 eX12_left_39 ?_
    refine z_ga eX12_left_40 fX12_35 zs117 (t := 122) rfl ?_
    refine z_ki eX12_left_43 ?_
    refine zr_iN eX12_left_44 zs122 (j := 2) (by omega) (by omega) ?_
    rw [show cA g (g 122) (nS (g 122)) (allV (g 122)) 122 2 = ((g 122 2).toNat : Int) by rw [cA_off (by decide) (by decide)]; exact stN hb]
    refine z_il1 eX12_left_45 ?_
    refine zc_vi2 eX12_left_46 lX12_317 tX12_leftOf zs117 (by decide) (Nat.le_of_ble_eq_true rfl) (r_leftM (mW_cA rfl) hb (inOf_b hb) _ (stL hb hst) n (by omega)) ?_
    rintro _ g1 ⟨rfl, hfr⟩ -
    have hmf : zMf g g1 := (zMf.rf.cA _ _ _).fr hfr (by decide) (fun _ => rfl)
    refine ze_i eX12_left_49 rfl ?_
    exact pM0_f hg hmf (by unfold qLeft; (repeat' split) <;> first | (exfalso; omega) | rfl | (rw [Int.toNat_natCast]; rfl; done))
  · have z25 := iteF c25
    refine z_al0 eX12_left_28 ?_
    refine z_ki eX12_left_29 ?_
    refine zc_vi1 eX12_left_30 lX12_275 tX12_refuse zs117 (by decide) (Nat.le_of_ble_eq_true rfl) (r_refuse _ _) ?_
    rintro _ _ ⟨rfl, rfl⟩ -
    refine ze_i eX12_left_33 rfl ?_
    exact pM0_fr hg zMf.rf (by unfold qLeft; (repeat' split) <;> first | (exfalso; omega) | rfl)
theorem x_cousins_l (h : zHp) (H : rHR h) (D : Nat → Int) (hD : h 122 = D) (a : Int) : ∀ (r k : Nat) (g : zHp), k + r = nN D → zXf h g → zRW mX11_cousins 4 (0, 0) 38 [zA 0, zI a, zI (pickN (couP D a) k : Nat), zI k, zU, zU] [] 143 g (zqi (fun v h' => pX0 h ((pickN (couP D a) (nN D) : Int), 0) v h')) := by
  intro r
  induction r using Nat.strongRecOn with
  | ind r ih =>
    intro k g hk hg
    have Hg := H.xf hg
    have e122 : g 122 = D := (hg.2.1 122 (by omega)).trans hD
    obtain ⟨⟨hb, hst, e0, e1, e7, ek, es, eo, hp⟩, hru⟩ : hallR g 4 D (g 123) ∧ ruleR g 24 D := by rw [← e122]; exact Hg
    have hN := nN_eq hb
    have hN8 := nN_le hb
    have hb2 := hb.2.2.1
    have hpk := pick_31 (couP D a) (k := k) (by omega)
    have hS2 := stL hb hst
    have hSN := stN hb
    have e : pickN (couP D a) (k + 1) = if couP D a k then pickN (couP D a) k ||| 2 ^ k else pickN (couP D a) k := rfl
    refine z_il3 eX11_cousins_38 ?_
    refine z_al0 eX11_cousins_39 ?_
    refine z_ga eX11_cousins_40 fX11_25 zs0 (t := 4) rfl ?_
    refine z_gi eX11_cousins_43 fX11_120 zs4 ?_
    refine z_cge eX11_cousins_46 rfl (fun c46 => ?_) (fun c46 => ?_)
    · refine z_al0 eX11_cousins_120 ?_
      refine z_il2 eX11_cousins_121 ?_
      refine zc_vi1 eX11_cousins_122 lX11_202 tX11_answer zs0 (by decide) (Nat.le_of_ble_eq_true rfl) (x_answer _ _) ?_
      rintro _ _ ⟨rfl, rfl⟩ -
      refine ze_i eX11_cousins_125 rfl ?_
      have e : k = nN D := by omega
      subst e
      exact pX0_f hg rfl
    · refine z_ki eX11_cousins_49 ?_
      refine z_il3 eX11_cousins_50 ?_
      refine z_ishl eX11_cousins_51 ?_
      rw [kb_shl1 (by omega)]
      have hpk2 := Nat.pow_le_pow_right (n := 2) (by omega) (show k ≤ 7 by omega)
      refine z_is4 eX11_cousins_52 zn0 ?_
      refine z_al0 eX11_cousins_54 ?_
      refine z_ga eX11_cousins_55 fX11_25 zs0 (t := 4) rfl ?_
      refine z_gi eX11_cousins_58 fX11_221 zs4 ?_
      refine z_il4 eX11_cousins_61 ?_
      refine z_iand eX11_cousins_63 ?_
      rw [e1, hSN, kb_and (by omega), and_p2]
      refine z_ine eX11_cousins_64 rfl (fun c64 => ?_) (fun c64 => ?_)
      · refine z_incN3 eX11_cousins_114 zn0 (by omega) (by omega) ?_
        refine z_goto eX11_cousins_117 rfl ?_
        refine z_fg4 ?_
        have tb : (D 2).toNat.testBit k = true := by
          cases z : (D 2).toNat.testBit k with
          | true => rfl
          | false => rw [z] at c64; exact absurd rfl c64
        rw [show pickN (couP D a) k = pickN (couP D a) (k + 1) by rw [e, if_neg (by unfold couP; rw [tb]; simp)]]
        exact ih (r - 1) (by omega) (k + 1) g (by omega) hg
      · refine z_al0 eX11_cousins_67 ?_
        refine z_ga eX11_cousins_68 fX11_65 zs0 (t := 50) rfl ?_
        refine z_al0 eX11_cousins_71 ?_
        refine z_ga eX11_cousins_72 fX11_25 zs0 (t := 4) rfl ?_
        refine z_gi eX11_cousins_75 fX11_221 zs4 ?_
        refine z_il4 eX11_cousins_78 ?_
        refine z_ior eX11_cousins_80 ?_
        rw [e1, hSN, kb_or (by omega) (by omega)]
        refine z_al0 eX11_cousins_81 ?_
        refine z_ga eX11_cousins_82 fX11_25 zs0 (t := 4) rfl ?_
        refine z_ga eX11_cousins_85 fX11_237 zs4 (t := 9) rfl ?_
        refine zc_vi2 eX11_cousins_88 lX11_249 tX2_winnerOf zs50 (by decide) (Nat.le_of_ble_eq_true rfl) (x_winD Hg e122 _ (or_p2_lt hS2 (by omega))) ?_
        rintro _ g2 ⟨rfl, hfr⟩ -
        refine z_is5 eX11_cousins_91 zn0 ?_
        refine z_il2 eX11_cousins_93 ?_
        refine z_il5 eX11_cousins_94 ?_
        refine z_il1 eX11_cousins_96 ?_
        refine z_ceq eX11_cousins_97 rfl (fun c97 => ?_) (fun c97 => ?_)
        · refine z_ki eX11_cousins_111 ?_
          refine z_ior eX11_cousins_112 ?_
          rw [show (0 : Int) = ((0 : Nat) : Int) from rfl, kb_or (by omega) (by omega), Nat.or_zero]
          refine z_is2 eX11_cousins_113 zn0 ?_
          refine z_incN3 eX11_cousins_114 zn0 (by omega) (by omega) ?_
          refine z_goto eX11_cousins_117 rfl ?_
          refine z_fg4 ?_
          refine z_fg5 ?_
          have tb : (D 2).toNat.testBit k = false := by
            cases z : (D 2).toNat.testBit k with
            | false => rfl
            | true => rw [z, if_pos rfl] at c64; have := Nat.two_pow_pos k; omega
          rw [show pickN (couP D a) k = pickN (couP D a) (k + 1) by rw [e, if_neg (by unfold couP; rw [tb]; simp [c97])]]
          exact ih (r - 1) (by omega) (k + 1) g2 (by omega) (hg.fr hfr (by decide) (fun _ => rfl))
        · refine z_il5 eX11_cousins_100 ?_
          refine z_il3 eX11_cousins_102 ?_
          refine z_ceq eX11_cousins_103 rfl (fun c103 => ?_) (fun c103 => ?_)
          · refine z_ki eX11_cousins_111 ?_
            refine z_ior eX11_cousins_112 ?_
            rw [show (0 : Int) = ((0 : Nat) : Int) from rfl, kb_or (by omega) (by omega), Nat.or_zero]
            refine z_is2 eX11_cousins_113 zn0 ?_
            refine z_incN3 eX11_cousins_114 zn0 (by omega) (by omega) ?_
            refine z_goto eX11_cousins_117 rfl ?_
            refine z_fg4 ?_
            refine z_fg5 ?_
            have tb : (D 2).toNat.testBit k = false := by
              cases z : (D 2).toNat.testBit k with
              | false => rfl
              | true => rw [z, if_pos rfl] at c64; have := Nat.two_pow_pos k; omega
            rw [show pickN (couP D a) k = pickN (couP D a) (k + 1) by rw [e, if_neg (by unfold couP; rw [tb]; simp [c103])]]
            exact ih (r - 1) (by omega) (k + 1) g2 (by omega) (hg.fr hfr (by decide) (fun _ => rfl))
          · refine z_il4 eX11_cousins_106 ?_
            refine z_goto eX11_cousins_108 rfl ?_
            refine z_ior eX11_cousins_112 ?_
            rw [kb_or (by omega) (by omega)]
            refine z_is2 eX11_cousins_113 zn0 ?_
            refine z_incN3 eX11_cousins_114 zn0 (by omega) (by omega) ?_
            refine z_goto eX11_cousins_117 rfl ?_
            refine z_fg4 ?_
            refine z_fg5 ?_
            have tb : (D 2).toNat.testBit k = false := by
              cases z : (D 2).toNat.testBit k with
              | false => rfl
              | true => rw [z, if_pos rfl] at c64; have := Nat.two_pow_pos k; omega
            rw [show pickN (couP D a) k ||| 2 ^ k = pickN (couP D a) (k + 1) by rw [e, if_pos (by unfold couP; rw [tb]; simp [c97, c103])]]
            exact ih (r - 1) (by omega) (k + 1) g2 (by omega) (hg.fr hfr (by decide) (fun _ => rfl))
theorem x_cousins (h : zHp) (H : rHR h) : zCi mX11_cousins 4 [zA 0] h (fun v h' => pX0 h (qCous (h 122)) v h') := by
  refine z_enter [zA 0, zU, zU, zU, zU, zU] (by decide +kernel) (Nat.le_of_ble_eq_true rfl) rfl (fun hra hrg => ?_)
  obtain ⟨⟨hb, hst, e0, e1, e7, ek, es, eo, hp⟩, hru⟩ := id H
  have hN := nN_eq hb
  have hS := nS_eq hb
  have hN8 := nN_le hb
  have hS20 := nS_le hb
  have hb2 := hb.2.2.1
  refine z_al0 eX11_cousins_0 ?_
  refine z_ga eX11_cousins_1 fX11_65 zs0 (t := 50) rfl ?_
  refine z_al0 eX11_cousins_4 ?_
  refine z_ga eX11_cousins_5 fX11_25 zs0 (t := 4) rfl ?_
  refine z_gi eX11_cousins_8 fX11_221 zs4 ?_
  refine z_al0 eX11_cousins_11 ?_
  refine z_ga eX11_cousins_12 fX11_25 zs0 (t := 4) rfl ?_
  refine z_ga eX11_cousins_15 fX11_237 zs4 (t := 9) rfl ?_
  rw [e1, stN hb]
  refine zc_vi2 eX11_cousins_18 lX11_249 tX2_winnerOf zs50 (by decide) (Nat.le_of_ble_eq_true rfl) (x_winN _ H _ (stL hb hst)) ?_
  rintro _ g ⟨rfl, hfr⟩ -
  have hwb := winNow_b hb (h 122 2).toNat
  have hxf : zXf h g := zXf.rf.fr hfr (by decide) (fun _ => rfl)
  refine z_is1 eX11_cousins_21 zn2 ?_
  refine z_il1 eX11_cousins_22 ?_
  refine z_ki eX11_cousins_23 ?_
  refine z_cne eX11_cousins_24 rfl (fun c24 => ?_) (fun c24 => ?_)
  · refine z_ki eX11_cousins_34 ?_
    refine z_is2 eX11_cousins_35 zn0 ?_
    refine z_ki eX11_cousins_36 ?_
    refine z_is3 eX11_cousins_37 zn0 ?_
    rw [show qCous (h 122) = ((pickN (couP (h 122) (winNow (h 122) (h 122 2).toNat)) (nN (h 122)) : Int), 0) from if_neg (by omega)]
    exact x_cousins_l h H _ rfl _ _ 0 g (Nat.zero_add _) hxf
  · refine z_al0 eX11_cousins_27 ?_
    refine z_ki eX11_cousins_28 ?_
    refine zc_vi1 eX11_cousins_30 lX11_153 tX11_fail zs0 (by decide) (Nat.le_of_ble_eq_true rfl) (x_fail _ _) ?_
    rintro _ _ ⟨rfl, rfl⟩ -
    refine ze_i eX11_cousins_33 rfl ?_
    exact pX0_f hxf (by unfold qCous; (repeat' split) <;> first | (exfalso; omega) | rfl)
theorem r_cousins_l (h g0 : zHp) (hg : zup (zup h 117 1 0) 117 0 0 = g0) (D : Nat → Int) (hb : dB D) (hst : D 2 < ((2 ^ nN D : Nat) : Int)) (a : Int) : ∀ (r k : Nat) (g : zHp), k + r = nN D → zMf g0 g → mW g D (inOf D) → zRW mX12_cousins 8 (0, 0) 30 [zA 117, zI a, zI (pickN (couP D a) k : Nat), zI k, zU] [] 143 g (zqi (fun v h' => pM0 h ((pickN (couP D a) (nN D) : Int), 0) v h')) := by
  have hN := nN_eq hb
  have hS := nS_eq hb
  have hN8 := nN_le hb
  have hS20 := nS_le hb
  have hb2 := hb.2.2.1
  have hS2 := stL hb hst
  have hSN := stN hb
  intro r
  induction r using Nat.strongRecOn with
  | ind r ih =>
    intro k g hk hmf hmw
    have d0 : g 122 0 = (nN D : Int) := by rw [hmw.1]; exact hN
    have d2 : g 122 2 = ((D 2).toNat : Int) := by rw [hmw.1]; exact hSN
    have hpk := pick_31 (couP D a) (k := k) (by omega)
    have e : pickN (couP D a) (k + 1) = if couP D a k then pickN (couP D a) k ||| 2 ^ k else pickN (couP D a) k := rfl
    refine z_il3 eX12_cousins_30 ?_
    refine z_al0 eX12_cousins_31 ?_
    refine z_ga eX12_cousins_32 fX12_35 zs117 (t := 122) rfl ?_
    refine z_ki eX12_cousins_35 ?_
    refine zr_iN eX12_cousins_36 zs122 (j := 0) (by omega) (by omega) ?_
    refine z_cge eX12_cousins_37 rfl (fun c37 => ?_) (fun c37 => ?_)
    · refine z_il2 eX12_cousins_97 ?_
      refine ze_i eX12_cousins_98 rfl ?_
      have e : k = nN D := by omega
      subst e
      exact pM0_f hg hmf rfl
    · refine z_al0 eX12_cousins_40 ?_
      refine z_ga eX12_cousins_41 fX12_35 zs117 (t := 122) rfl ?_
      refine z_ki eX12_cousins_44 ?_
      refine zr_iN eX12_cousins_45 zs122 (j := 2) (by omega) (by omega) ?_
      refine z_il3 eX12_cousins_46 ?_
      rw [d2]
      refine z_ishr eX12_cousins_47 ?_
      refine z_ki eX12_cousins_48 ?_
      refine z_iand eX12_cousins_49 ?_
      refine z_ki eX12_cousins_50 ?_
      refine z_cne eX12_cousins_51 rfl (fun c51 => ?_) (fun c51 => ?_)
      · have hpk2 := Nat.pow_le_pow_right (n := 2) (by omega) (show k ≤ 7 by omega)
        rw [kb_b1 (by omega) (by omega)] at c51
        refine z_al0 eX12_cousins_57 ?_
        refine z_al0 eX12_cousins_58 ?_
        refine z_ga eX12_cousins_59 fX12_35 zs117 (t := 122) rfl ?_
        refine z_ki eX12_cousins_62 ?_
        refine zr_iN eX12_cousins_63 zs122 (j := 2) (by omega) (by omega) ?_
        refine z_ki eX12_cousins_64 ?_
        refine z_il3 eX12_cousins_65 ?_
        refine z_ishl eX12_cousins_66 ?_
        refine z_ior eX12_cousins_67 ?_
        rw [d2, kb_shl1 (by omega), kb_or (by omega) (by omega)]
        refine zc_vi1 eX12_cousins_68 lX12_323 tX12_winner zs117 (by decide) (Nat.le_of_ble_eq_true rfl) (r_winM hmw hb (inOf_b hb) _ (or_p2_lt hS2 (by omega))) ?_
        rintro _ g2 ⟨rfl, hfr⟩ -
        change zRW _ _ _ _ _ (zI (winNow D ((D 2).toNat ||| 2 ^ k)) :: _) _ _ _
        refine z_is4 eX12_cousins_71 zn0 ?_
        refine z_il4 eX12_cousins_73 ?_
        refine z_il1 eX12_cousins_75 ?_
        refine z_ceq eX12_cousins_76 rfl (fun c76 => ?_) (fun c76 => ?_)
        · refine z_incN3 eX12_cousins_91 zn0 (by omega) (by omega) ?_
          refine z_goto eX12_cousins_94 rfl ?_
          refine z_fg4 ?_
          have tb : (D 2).toNat.testBit k = false := by simpa using c51
          rw [show pickN (couP D a) k = pickN (couP D a) (k + 1) by rw [e, if_neg (by unfold couP; rw [tb]; simp [c76])]]
          exact ih (r - 1) (by omega) (k + 1) g2 (by omega) (hmf.fr hfr (by decide) (fun _ => rfl)) (hmw.fr hfr)
        · refine z_il4 eX12_cousins_79 ?_
          refine z_il3 eX12_cousins_81 ?_
          refine z_ceq eX12_cousins_82 rfl (fun c82 => ?_) (fun c82 => ?_)
          · refine z_incN3 eX12_cousins_91 zn0 (by omega) (by omega) ?_
            refine z_goto eX12_cousins_94 rfl ?_
            refine z_fg4 ?_
            have tb : (D 2).toNat.testBit k = false := by simpa using c51
            rw [show pickN (couP D a) k = pickN (couP D a) (k + 1) by rw [e, if_neg (by unfold couP; rw [tb]; simp [c82])]]
            exact ih (r - 1) (by omega) (k + 1) g2 (by omega) (hmf.fr hfr (by decide) (fun _ => rfl)) (hmw.fr hfr)
          · refine z_il2 eX12_cousins_85 ?_
            refine z_ki eX12_cousins_86 ?_
            refine z_il3 eX12_cousins_87 ?_
            refine z_ishl eX12_cousins_88 ?_
            refine z_ior eX12_cousins_89 ?_
            rw [kb_shl1 (by omega), kb_or (by omega) (by omega)]
            refine z_is2 eX12_cousins_90 zn0 ?_
            refine z_incN3 eX12_cousins_91 zn0 (by omega) (by omega) ?_
            refine z_goto eX12_cousins_94 rfl ?_
            refine z_fg4 ?_
            have tb : (D 2).toNat.testBit k = false := by simpa using c51
            rw [show pickN (couP D a) k ||| 2 ^ k = pickN (couP D a) (k + 1) by rw [e, if_pos (by unfold couP; rw [tb]; simp [c76, c82])]]
            exact ih (r - 1) (by omega) (k + 1) g2 (by omega) (hmf.fr hfr (by decide) (fun _ => rfl)) (hmw.fr hfr)
      · refine z_goto eX12_cousins_54 rfl ?_
        refine z_incN3 eX12_cousins_91 zn0 (by omega) (by omega) ?_
        refine z_goto eX12_cousins_94 rfl ?_
        rw [kb_b1 (by omega) (by omega)] at c51
        rw [show pickN (couP D a) k = pickN (couP D a) (k + 1) by rw [e, if_neg (by unfold couP; rw [c51]; simp)]]
        exact ih (r - 1) (by omega) (k + 1) g (by omega) hmf hmw
theorem r_cousins (h : zHp) (D : Nat → Int) (hD : h 122 = D) (hb : dB D) (hst : D 2 < ((2 ^ nN D : Nat) : Int)) : zCi mX12_cousins 8 [zA 117] h (fun v h' => pM0 h (qCous D) v h') := by
  refine z_enter [zA 117, zU, zU, zU, zU] (by decide +kernel) (Nat.le_of_ble_eq_true rfl) rfl (fun hra hrg => ?_)
  refine z_al0 eX12_cousins_0 ?_
  refine z_ki eX12_cousins_1 ?_
  refine z_pi eX12_cousins_2 pX12_98 zs117 ?_
  refine z_al0 eX12_cousins_5 ?_
  refine z_ki eX12_cousins_6 ?_
  refine z_pi eX12_cousins_7 pX12_101 zs117 ?_
  generalize hg : zup (zup h 117 1 0) 117 0 0 = g
  obtain ⟨ga, gf, g0⟩ := m_g hg
  have gD : g 122 = D := (ga 122 (by decide)).trans hD
  subst gD
  have hN := nN_eq hb
  have hS := nS_eq hb
  have hN8 := nN_le hb
  have hS20 := nS_le hb
  have hb2 := hb.2.2.1
  refine z_al0 eX12_cousins_10 ?_
  refine zc_vi0 eX12_cousins_11 lX12_326 tX12_winnerNow zs117 (by decide) (Nat.le_of_ble_eq_true rfl) (r_winnerNow _ _ rfl hb (stL hb hst)) ?_
  rintro _ g1 ⟨rfl, hfr⟩ -
  have hmf : zMf g g1 := (zMf.rf.cA _ _ _).fr hfr (by decide) (fun _ => rfl)
  refine z_is1 eX12_cousins_14 zn2 ?_
  refine z_il1 eX12_cousins_15 ?_
  refine z_ige eX12_cousins_16 rfl (fun c16 => ?_) (fun c16 => ?_)
  · refine z_ki eX12_cousins_26 ?_
    refine z_is2 eX12_cousins_27 zn0 ?_
    refine z_ki eX12_cousins_28 ?_
    refine z_is3 eX12_cousins_29 zn0 ?_
    rw [show qCous (g 122) = ((pickN (couP (g 122) (winNow (g 122) (g 122 2).toNat)) (nN (g 122)) : Int), 0) from if_neg (by omega)]
    exact r_cousins_l h g hg _ hb hst _ _ 0 g1 (Nat.zero_add _) hmf ((mW_cA rfl).fr hfr)
  · refine z_al0 eX12_cousins_19 ?_
    refine z_ki eX12_cousins_20 ?_
    refine zc_vi1 eX12_cousins_22 lX12_275 tX12_refuse zs117 (by decide) (Nat.le_of_ble_eq_true rfl) (r_refuse _ _) ?_
    rintro _ _ ⟨rfl, rfl⟩ -
    refine ze_i eX12_cousins_25 rfl ?_
    exact pM0_fr hg hmf (by unfold qCous; (repeat' split) <;> first | (exfalso; omega) | rfl)
