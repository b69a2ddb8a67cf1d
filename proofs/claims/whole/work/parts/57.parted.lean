-- parted, parting, alike (written by wip/tools/specP1.py)
def pHall (D w : Nat → Int) : Nat := if sumN w (nS D) = 0 then 0 else if winW D w (D 2).toNat < 0 then 0 else 2 ^ (winW D w (D 2).toNat).toNat
def wIn (D : Nat → Int) (set : Nat) : Nat → Int := fun s => if set.testBit s = true then D (20 + s) else 0
def wNot (D : Nat → Int) (set : Nat) : Nat → Int := fun s => if set.testBit s = true then 0 else D (20 + s)
def partOf (D : Nat → Int) (set : Nat) : Int := winNow D (pHall D (wIn D set) ||| pHall D (wNot D set))
theorem pHall_lt {D : Nat → Int} (hb : dB D) (w : Nat → Int) : pHall D w < 2 ^ nN D := by
  have h1 := winW_b hb w (D 2).toNat
  have h0 := Nat.two_pow_pos (nN D)
  unfold pHall
  split
  · exact h0
  · split
    · exact h0
    · exact Nat.pow_lt_pow_right (by omega) (by omega)
theorem wIn_b {D : Nat → Int} (hb : dB D) (set : Nat) : vB D (wIn D set) := fun s hs => by
  have := hb.2.2.2.2.1 s hs
  unfold wIn
  split <;> omega
theorem wNot_b {D : Nat → Int} (hb : dB D) (set : Nat) : vB D (wNot D set) := fun s hs => by
  have := hb.2.2.2.2.1 s hs
  unfold wNot
  split <;> omega
theorem xor_0 {a b : Nat} (h : a ^^^ b = 0) : a = b := by
  have := congrArg (fun x => x ^^^ b) h
  simpa [Nat.xor_assoc] using this
theorem kb_neg31 {x : Int} (h0 : -2147483648 ≤ x) (h1 : x < 0) : bt (Int32.ofInt x) 31 = true := by
  have h2 : (Int32.ofInt x).toInt < 0 := by rw [z32_ti ⟨h0, by omega⟩]; exact h1
  have h3 : (Int32.ofInt x).toBitVec.toInt < 0 := h2
  have h4 : (Int32.ofInt x).toBitVec.msb = true := by rw [BitVec.msb_eq_toInt]; exact decide_eq_true h3
  rw [BitVec.msb_eq_getLsbD_last] at h4
  exact h4
theorem kb_sub {x : Int} (hx : z32 x) {n : Nat} (hn : n ≤ 30) : zand x (zxor (((2 ^ n - 1 : Nat) : Int)) (-1)) = 0 ↔ 0 ≤ x ∧ x < ((2 ^ n : Nat) : Int) := by
  unfold z32 at hx
  have hp := p2_31 hn
  have hpp := Nat.two_pow_pos n
  by_cases h0 : 0 ≤ x
  · obtain ⟨m, rfl⟩ := Int.eq_ofNat_of_zero_le h0
    rw [kb_andn (by omega), Nat.and_two_pow_sub_one_eq_mod]
    constructor
    · intro h
      have h2 : m ^^^ m % 2 ^ n = 0 := by omega
      have := xor_0 h2
      have := Nat.mod_lt m hpp
      omega
    · intro h
      rw [Nat.mod_eq_of_lt (by omega), Nat.xor_self]
      rfl
  · constructor
    · intro h
      exfalso
      unfold zand zxor at h
      have h1 : Int32.ofInt x &&& Int32.ofInt (Int32.ofInt ((2 ^ n - 1 : Nat) : Int) ^^^ Int32.ofInt (-1)).toInt = 0 := by
        rw [← Int32.toInt_inj]
        exact h
      rw [Int32.ofInt_toInt] at h1
      have h2 := congrArg (fun y => bt y 31) h1
      simp only [b_and, b_xor] at h2
      rw [kb_neg31 hx.1 (by omega), kb_m1 31 (by omega), kb_nI, kb_bt _ _ (by omega), Nat.testBit_lt_two_pow (show 2 ^ n - 1 < 2 ^ 31 by omega)] at h2
      exact absurd h2 (by decide)
    · intro h
      omega
theorem x_winWD {g : zHp} {D : Nat → Int} (Hg : rHR g) (e : g 122 = D) (va : Nat) (hva : zSH[va]? = some (20, 20)) (hv51 : ¬ va = 51) (w : Nat → Int) (hw : ∀ s, s < nS D → g va s = w s) (hvb : vB D w) (set : Nat) (hset : set < 2 ^ nN D) : zCi mX2_winnerOf 3 [zA 50, zI set, zA va] g (fun v h' => winW D w set = v ∧ zFr 51 g h') := by
  subst e
  exact x_winW g Hg va hva hv51 w hw hvb set hset
def inW (D w : Nat → Int) : Int := if sumN w (nS D) = 0 then -1 else winW D w (D 2).toNat
theorem inW_b {D : Nat → Int} (hb : dB D) (w : Nat → Int) : -1 ≤ inW D w ∧ inW D w < 8 := by
  have := winW_b hb w (D 2).toNat
  unfold inW
  split <;> omega
theorem inW_neg {D w : Nat → Int} (h : inW D w < 0) : pHall D w = 0 := by
  unfold inW at h
  unfold pHall
  by_cases q : sumN w (nS D) = 0
  · rw [if_pos q]
  · rw [if_neg q] at h
    rw [if_neg q, if_pos h]
theorem inW_pos {D w : Nat → Int} (h : ¬ inW D w < 0) : pHall D w = 2 ^ (inW D w).toNat := by
  unfold inW at h ⊢
  unfold pHall
  by_cases q : sumN w (nS D) = 0
  · rw [if_pos q] at h; omega
  · rw [if_neg q] at h
    rw [if_neg q, if_neg h, if_neg q]
theorem winW_st {D : Nat → Int} (w : Nat → Int) (set : Nat) : winOf D w (sumN w (nS D)) set = winW D w set := rfl
theorem x_hallW_l (h : zHp) (H : rHR h) (D : Nat → Int) (hD : h 122 = D) (va : Nat) (hva : zSH[va]? = some (20, 20)) (hv51 : ¬ va = 51) (w : Nat → Int) (hw : ∀ s, s < nS D → h va s = w s) (hvb : vB D w) : ∀ (r s : Nat), s + r = nS D → zRW mX2_hallWinner 4 (0, 0) 4 [zA 50, zA va, zI (sumN w s), zI s] [] 143 h (zqi (fun v h' => (pHall D w : Int) = v ∧ zFr 51 h h')) := by
  subst hD
  obtain ⟨⟨hb, hst, e0, e1, e7, ek, es, eo, hp⟩, hru⟩ := id H
  have hN := nN_eq hb
  have hS := nS_eq hb
  have hN8 := nN_le hb
  have hS20 := nS_le hb
  have hb2 := hb.2.2.1
  intro r
  induction r using Nat.strongRecOn with
  | ind r ih =>
    intro s hs
    refine z_il3 eX2_hallWinner_4 ?_
    refine z_al0 eX2_hallWinner_5 ?_
    refine z_ga eX2_hallWinner_6 fX2_21 zs50 (t := 4) rfl ?_
    refine z_gi eX2_hallWinner_9 fX2_78 zs4 ?_
    refine z_cge eX2_hallWinner_12 rfl (fun c12 => ?_) (fun c12 => ?_)
    · have e : s = nS (h 122) := by omega
      subst e
      refine z_il2 eX2_hallWinner_27 ?_
      refine z_ine eX2_hallWinner_28 rfl (fun c28 => ?_) (fun c28 => ?_)
      · refine z_al0 eX2_hallWinner_35 ?_
        refine z_al0 eX2_hallWinner_36 ?_
        refine z_ga eX2_hallWinner_37 fX2_21 zs50 (t := 4) rfl ?_
        refine z_gi eX2_hallWinner_40 fX2_116 zs4 ?_
        refine z_al1 eX2_hallWinner_43 ?_
        rw [e1, stN hb]
        refine zc_vi2 eX2_hallWinner_44 lX2_113 tX2_winnerOf zs50 (by decide) (Nat.le_of_ble_eq_true rfl) (x_winWD H rfl va hva hv51 w hw hvb _ (stL hb hst)) ?_
        rintro _ g ⟨rfl, hfr⟩ -
        have hwb := winW_b hb w (h 122 2).toNat
        refine z_is3 eX2_hallWinner_47 zn0 ?_
        refine z_il3 eX2_hallWinner_48 ?_
        refine z_ki eX2_hallWinner_49 ?_
        refine z_cne eX2_hallWinner_50 rfl (fun c50 => ?_) (fun c50 => ?_)
        · refine z_ki eX2_hallWinner_57 ?_
          refine z_il3 eX2_hallWinner_58 ?_
          refine z_ishl eX2_hallWinner_59 ?_
          have hwb := winW_b hb w (h 122 2).toNat
          obtain ⟨m, hm⟩ := Int.eq_ofNat_of_zero_le (show 0 ≤ winW (h 122) w (h 122 2).toNat by omega)
          rw [hm, kb_shl1 (by omega)]
          refine ze_i eX2_hallWinner_60 rfl ?_
          refine ⟨?_, hfr⟩
          unfold pHall
          rw [if_neg c28, if_neg (by omega), hm]; rfl
        · refine z_ki eX2_hallWinner_53 ?_
          refine z_goto eX2_hallWinner_54 rfl ?_
          refine ze_i eX2_hallWinner_60 rfl ?_
          refine ⟨?_, hfr⟩
          unfold pHall
          rw [if_neg c28, if_pos (by omega)]; rfl
      · refine z_ki eX2_hallWinner_31 ?_
        refine z_goto eX2_hallWinner_32 rfl ?_
        refine z_is3 eX2_hallWinner_47 zn0 ?_
        refine z_il3 eX2_hallWinner_48 ?_
        refine z_ki eX2_hallWinner_49 ?_
        refine z_cne eX2_hallWinner_50 rfl (fun c50 => ?_) (fun c50 => ?_)
        · exact absurd rfl c50
        · refine z_ki eX2_hallWinner_53 ?_
          refine z_goto eX2_hallWinner_54 rfl ?_
          refine ze_i eX2_hallWinner_60 rfl ?_
          refine ⟨?_, zFr.rf⟩
          unfold pHall
          rw [if_pos c28]; rfl
    · refine z_il2 eX2_hallWinner_15 ?_
      refine z_al1 eX2_hallWinner_16 ?_
      refine z_il3 eX2_hallWinner_17 ?_
      refine zr_iN eX2_hallWinner_18 hva (j := s) (by omega) (by omega) ?_
      have hsum := vB_sum hvb (s := s) (by omega)
      have hv := hvb s (by omega)
      rw [hw s (by omega)]
      refine z_iaddN eX2_hallWinner_19 (by omega) (by omega) ?_
      refine z_is2 eX2_hallWinner_20 zn2 ?_
      refine z_incN3 eX2_hallWinner_21 zn0 (by omega) (by omega) ?_
      refine z_goto eX2_hallWinner_24 rfl ?_
      exact ih (r - 1) (by omega) (s + 1) (by omega)
theorem x_hallW (h : zHp) (H : rHR h) (D : Nat → Int) (hD : h 122 = D) (va : Nat) (hva : zSH[va]? = some (20, 20)) (hv51 : ¬ va = 51) (w : Nat → Int) (hw : ∀ s, s < nS D → h va s = w s) (hvb : vB D w) : zCi mX2_hallWinner 4 [zA 50, zA va] h (fun v h' => (pHall D w : Int) = v ∧ zFr 51 h h') := by
  refine z_enter [zA 50, zA va, zU, zU] (by decide +kernel) (Nat.le_of_ble_eq_true rfl) rfl (fun hra hrg => ?_)
  refine z_ki eX2_hallWinner_0 ?_
  refine z_is2 eX2_hallWinner_1 zn2 ?_
  refine z_ki eX2_hallWinner_2 ?_
  refine z_is3 eX2_hallWinner_3 zn0 ?_
  exact x_hallW_l h H D hD va hva hv51 w hw hvb _ 0 (Nat.zero_add _)
theorem x_partW_l (h : zHp) (H : rHR h) (D : Nat → Int) (hD : h 122 = D) (set : Nat) (hset : set < 2147483648) : ∀ (r s : Nat) (g : zHp), s + r = nS D → zXf h g → (∀ j : Nat, j < s → g 52 j = wIn D set j ∧ g 53 j = wNot D set j) → zRW mX2_partedWinner 5 (0, 0) 2 [zA 50, zI set, zI s, zU] [] 143 g (zqi (fun v h' => partOf D set = v ∧ zXf h h')) := by
  intro r
  induction r using Nat.strongRecOn with
  | ind r ih =>
    intro s g hs hg hj
    have Hg := H.xf hg
    have e122 : g 122 = D := (hg.2.1 122 (by omega)).trans hD
    obtain ⟨⟨hb, hst, e0, e1, e7, ek, es, eo, hp⟩, hru⟩ : hallR g 4 D (g 123) ∧ ruleR g 24 D := by rw [← e122]; exact Hg
    have hN := nN_eq hb
    have hS := nS_eq hb
    have hN8 := nN_le hb
    have hS20 := nS_le hb
    have hb2 := hb.2.2.1
    refine z_il2 eX2_partedWinner_2 ?_
    refine z_al0 eX2_partedWinner_3 ?_
    refine z_ga eX2_partedWinner_4 fX2_21 zs50 (t := 4) rfl ?_
    refine z_gi eX2_partedWinner_7 fX2_78 zs4 ?_
    refine z_cge eX2_partedWinner_10 rfl (fun c10 => ?_) (fun c10 => ?_)
    · refine z_al0 eX2_partedWinner_79 ?_
      refine z_al0 eX2_partedWinner_80 ?_
      refine z_al0 eX2_partedWinner_81 ?_
      refine z_ga eX2_partedWinner_82 fX2_15 zs50 (t := 52) rfl ?_
      refine zc_vi1 eX2_partedWinner_85 lX2_109 tX2_hallWinner zs50 (by decide) (Nat.le_of_ble_eq_true rfl) (x_hallW g Hg D e122 52 rfl (by decide) (wIn D set) (fun j hj2 => (hj j (by omega)).1) (wIn_b hb set)) ?_
      rintro _ g1 ⟨rfl, hfr1⟩ -
      have hg1 : zXf h g1 := hg.fr hfr1 (by decide) (fun _ => rfl)
      have Hg1 := H.xf hg1
      have e1221 : g1 122 = D := (hg1.2.1 122 (by omega)).trans hD
      refine z_al0 eX2_partedWinner_88 ?_
      refine z_al0 eX2_partedWinner_89 ?_
      refine z_ga eX2_partedWinner_90 fX2_18 zs50 (t := 53) rfl ?_
      refine zc_vi1 eX2_partedWinner_93 lX2_109 tX2_hallWinner zs50 (by decide) (Nat.le_of_ble_eq_true rfl) (x_hallW g1 Hg1 D e1221 53 rfl (by decide) (wNot D set) (fun j hj2 => by rw [hfr1 53 (by decide)]; exact (hj j (by omega)).2) (wNot_b hb set)) ?_
      rintro _ g2 ⟨rfl, hfr2⟩ -
      have hg2 : zXf h g2 := hg1.fr hfr2 (by decide) (fun _ => rfl)
      have Hg2 := H.xf hg2
      have e1222 : g2 122 = D := (hg2.2.1 122 (by omega)).trans hD
      refine z_ior eX2_partedWinner_96 ?_
      have hp1 := p2_256 hb (pHall_lt hb (wIn D set))
      have hp2 := p2_256 hb (pHall_lt hb (wNot D set))
      rw [kb_or (by omega) (by omega)]
      refine z_al0 eX2_partedWinner_97 ?_
      refine z_ga eX2_partedWinner_98 fX2_21 zs50 (t := 4) rfl ?_
      refine z_ga eX2_partedWinner_101 fX2_106 zs4 (t := 9) rfl ?_
      refine zc_vi2 eX2_partedWinner_104 lX2_113 tX2_winnerOf zs50 (by decide) (Nat.le_of_ble_eq_true rfl) (x_winD Hg2 e1222 _ (Nat.or_lt_two_pow (pHall_lt hb _) (pHall_lt hb _))) ?_
      rintro _ g3 ⟨rfl, hfr3⟩ -
      refine ze_i eX2_partedWinner_107 rfl ?_
      exact ⟨rfl, hg2.fr hfr3 (by decide) (fun _ => rfl)⟩
    · have hsb := hb.2.2.2.2.1 s (by omega)
      have e9 : g 9 s = D (20 + s) := (es s (by omega)).1
      refine z_il1 eX2_partedWinner_13 ?_
      refine z_il2 eX2_partedWinner_14 ?_
      refine z_ishr eX2_partedWinner_15 ?_
      refine z_ki eX2_partedWinner_16 ?_
      refine z_iand eX2_partedWinner_17 ?_
      rw [kb_bit (by omega) (by omega)]
      refine z_ieq eX2_partedWinner_18 rfl (fun c18 => ?_) (fun c18 => ?_)
      · have z18 := iteF c18
        refine z_ki eX2_partedWinner_25 ?_
        refine z_is3 eX2_partedWinner_26 zn0 ?_
        refine z_al0 eX2_partedWinner_27 ?_
        refine z_ga eX2_partedWinner_28 fX2_15 zs50 (t := 52) rfl ?_
        refine z_il2 eX2_partedWinner_31 ?_
        refine z_il3 eX2_partedWinner_32 ?_
        refine z_ieq eX2_partedWinner_33 rfl (fun c33 => ?_) (fun c33 => ?_)
        · refine z_ki eX2_partedWinner_48 ?_
          refine zs_iN eX2_partedWinner_49 zs52 (j := s) (by omega) (by omega) ?_
          refine z_al0 eX2_partedWinner_50 ?_
          refine z_ga eX2_partedWinner_51 fX2_18 zs50 (t := 53) rfl ?_
          refine z_il2 eX2_partedWinner_54 ?_
          refine z_il3 eX2_partedWinner_55 ?_
          refine z_ieq eX2_partedWinner_56 rfl (fun c56 => ?_) (fun c56 => ?_)
          · refine z_al0 eX2_partedWinner_63 ?_
            refine z_ga eX2_partedWinner_64 fX2_21 zs50 (t := 4) rfl ?_
            refine z_ga eX2_partedWinner_67 fX2_106 zs4 (t := 9) rfl ?_
            refine z_il2 eX2_partedWinner_70 ?_
            refine zr_iN eX2_partedWinner_71 zs9 (j := s) (by omega) (by omega) ?_
            rw [zup_off (by decide), e9]
            refine zs_iN eX2_partedWinner_72 zs53 (j := s) (by omega) (by omega) ?_
            refine z_incN2 eX2_partedWinner_73 zn0 (by omega) (by omega) ?_
            refine z_goto eX2_partedWinner_76 rfl ?_
            refine z_fg3 ?_
            refine ih (r - 1) (by omega) (s + 1) _ (by omega) ((hg.up (by omega) (by omega) rfl).up (by omega) (by omega) rfl) (fun j hj2 => ?_)
            by_cases e : j = s
            · subst e
              refine ⟨?_, ?_⟩
              · rw [zup_off (by decide), zup_at]
                exact (if_neg z18).symm
              · rw [zup_at]
                exact (if_neg z18).symm
            · rw [zup_off (by decide), zup_ne (by omega), zup_ne (by omega), zup_off (by decide)]
              exact hj j (by omega)
          · exact absurd rfl c56
        · exact absurd rfl c33
      · have z18 := iteT c18
        refine z_ki eX2_partedWinner_21 ?_
        refine z_goto eX2_partedWinner_22 rfl ?_
        refine z_is3 eX2_partedWinner_26 zn0 ?_
        refine z_al0 eX2_partedWinner_27 ?_
        refine z_ga eX2_partedWinner_28 fX2_15 zs50 (t := 52) rfl ?_
        refine z_il2 eX2_partedWinner_31 ?_
        refine z_il3 eX2_partedWinner_32 ?_
        refine z_ieq eX2_partedWinner_33 rfl (fun c33 => ?_) (fun c33 => ?_)
        · exact absurd c33 (by decide)
        · refine z_al0 eX2_partedWinner_36 ?_
          refine z_ga eX2_partedWinner_37 fX2_21 zs50 (t := 4) rfl ?_
          refine z_ga eX2_partedWinner_40 fX2_106 zs4 (t := 9) rfl ?_
          refine z_il2 eX2_partedWinner_43 ?_
          refine zr_iN eX2_partedWinner_44 zs9 (j := s) (by omega) (by omega) ?_
          refine z_goto eX2_partedWinner_45 rfl ?_
          rw [e9]
          refine zs_iN eX2_partedWinner_49 zs52 (j := s) (by omega) (by omega) ?_
          refine z_al0 eX2_partedWinner_50 ?_
          refine z_ga eX2_partedWinner_51 fX2_18 zs50 (t := 53) rfl ?_
          refine z_il2 eX2_partedWinner_54 ?_
          refine z_il3 eX2_partedWinner_55 ?_
          refine z_ieq eX2_partedWinner_56 rfl (fun c56 => ?_) (fun c56 => ?_)
          · exact absurd c56 (by decide)
          · refine z_ki eX2_partedWinner_59 ?_
            refine z_goto eX2_partedWinner_60 rfl ?_
            refine zs_iN eX2_partedWinner_72 zs53 (j := s) (by omega) (by omega) ?_
            refine z_incN2 eX2_partedWinner_73 zn0 (by omega) (by omega) ?_
            refine z_goto eX2_partedWinner_76 rfl ?_
            refine z_fg3 ?_
            refine ih (r - 1) (by omega) (s + 1) _ (by omega) ((hg.up (by omega) (by omega) rfl).up (by omega) (by omega) rfl) (fun j hj2 => ?_)
            by_cases e : j = s
            · subst e
              refine ⟨?_, ?_⟩
              · rw [zup_off (by decide), zup_at]
                exact (if_pos z18).symm
              · rw [zup_at]
                exact (if_pos z18).symm
            · rw [zup_off (by decide), zup_ne (by omega), zup_ne (by omega), zup_off (by decide)]
              exact hj j (by omega)
theorem x_partW (h : zHp) (H : rHR h) (D : Nat → Int) (hD : h 122 = D) (set : Nat) (hset : set < 2147483648) : zCi mX2_partedWinner 5 [zA 50, zI set] h (fun v h' => partOf D set = v ∧ zXf h h') := by
  refine z_enter [zA 50, zI set, zU, zU] (by decide +kernel) (Nat.le_of_ble_eq_true rfl) rfl (fun hra hrg => ?_)
  refine z_ki eX2_partedWinner_0 ?_
  refine z_is2 eX2_partedWinner_1 zn0 ?_
  exact x_partW_l h H D hD set hset _ 0 h (Nat.zero_add _) zXf.rf (fun j hj => by omega)
theorem r_winnerIn_l (h : zHp) (D : Nat → Int) (hD : h 122 = D) (hb : dB D) (hst : D 2 < ((2 ^ nN D : Nat) : Int)) (x : Int) (w : Nat → Int) (hvb : vB D w) (hxw : ∀ s : Nat, s < nS D → (if zand (zshr x s) 1 = 1 then D (20 + s) else 0) = w s) : ∀ (r s : Nat) (g : zHp), s + r = nS D → g 122 = D → zMf h g → (∀ j : Nat, j < s → g 124 j = w j) → zRW mX12_winnerIn 7 (0, 0) 2 [zA 117, zI x, zI s] [] 143 g (zqi (fun v h' => inW D w = v ∧ zMf h h' ∧ h' 122 = D)) := by
  have hN := nN_eq hb
  have hS := nS_eq hb
  have hN8 := nN_le hb
  have hS20 := nS_le hb
  have hb2 := hb.2.2.1
  intro r
  induction r using Nat.strongRecOn with
  | ind r ih =>
    intro s g hs hgD hmf hj
    have d1 : g 122 1 = (nS D : Int) := by rw [hgD]; exact hS
    refine z_il2 eX12_winnerIn_2 ?_
    refine z_al0 eX12_winnerIn_3 ?_
    refine z_ga eX12_winnerIn_4 fX12_35 zs117 (t := 122) rfl ?_
    refine z_ki eX12_winnerIn_7 ?_
    refine zr_iN eX12_winnerIn_8 zs122 (j := 1) (by omega) (by omega) ?_
    refine z_cge eX12_winnerIn_9 rfl (fun c9 => ?_) (fun c9 => ?_)
    · have e : s = nS D := by omega
      subst e
      have hvb2 : vB D (g 124) := vB_congr (fun j hj2 => (hj j hj2).symm) hvb
      have hsm : sumN (g 124) (nS D) = sumN w (nS D) := sumN_congr _ (fun j hj2 => hj j hj2)
      refine z_al0 eX12_winnerIn_45 ?_
      refine zc_vv0 eX12_winnerIn_46 lX12_348 tX12_sumVoters zs117 (by decide) (Nat.le_of_ble_eq_true rfl) (r_sumVoters g D (g 124) hgD rfl hb hvb2) ?_
      rintro _ rfl
      refine z_al0 eX12_winnerIn_49 ?_
      refine z_gi eX12_winnerIn_50 fX12_284 zs117 ?_
      rw [zup_at, hsm]
      refine z_ine eX12_winnerIn_53 rfl (fun c53 => ?_) (fun c53 => ?_)
      · refine z_al0 eX12_winnerIn_60 ?_
        refine z_al0 eX12_winnerIn_61 ?_
        refine z_ga eX12_winnerIn_62 fX12_35 zs117 (t := 122) rfl ?_
        refine z_ki eX12_winnerIn_65 ?_
        refine zr_iN eX12_winnerIn_66 zs122 (j := 2) (by omega) (by omega) ?_
        rw [show zup g 117 25 (sumN w (nS D)) 122 2 = ((D 2).toNat : Int) by rw [zup_off (by decide), hgD]; exact stN hb]
        refine zc_vi1 eX12_winnerIn_67 lX12_323 tX12_winner zs117 (by decide) (Nat.le_of_ble_eq_true rfl) (r_winM (w := w) ⟨(zup_off (by decide)).trans hgD, fun j hj2 => by rw [zup_off (by decide)]; exact hj j hj2, by rw [zup_at]⟩ hb hvb _ (stL hb hst)) ?_
        rintro _ g2 ⟨rfl, hfr⟩ -
        refine ze_i eX12_winnerIn_70 rfl ?_
        refine ⟨?_, (hmf.up (by omega) (by omega) rfl).fr hfr (by decide) (fun _ => rfl), (hfr 122 (by decide)).trans ((zup_off (by decide)).trans hgD)⟩
        unfold inW
        rw [if_neg c53]
      · refine z_ki eX12_winnerIn_56 ?_
        refine z_goto eX12_winnerIn_57 rfl ?_
        refine ze_i eX12_winnerIn_70 rfl ?_
        refine ⟨?_, hmf.up (by omega) (by omega) rfl, (zup_off (by decide)).trans hgD⟩
        unfold inW
        rw [if_pos c53]
    · refine z_al0 eX12_winnerIn_12 ?_
      refine z_il2 eX12_winnerIn_13 ?_
      refine z_il1 eX12_winnerIn_14 ?_
      refine z_il2 eX12_winnerIn_15 ?_
      refine z_ishr eX12_winnerIn_16 ?_
      refine z_ki eX12_winnerIn_17 ?_
      refine z_iand eX12_winnerIn_18 ?_
      refine z_ki eX12_winnerIn_19 ?_
      refine z_cne eX12_winnerIn_20 rfl (fun c20 => ?_) (fun c20 => ?_)
      · refine z_ki eX12_winnerIn_35 ?_
        rw [show (0 : Int) = w s by rw [← hxw s (by omega), if_neg c20]]
        refine zc_vv2 eX12_winnerIn_36 lX12_287 tX12_setVoters zs117 (by decide) (Nat.le_of_ble_eq_true rfl) (r_setVoters _ s (by omega) _) ?_
        rintro _ rfl
        refine z_incN2 eX12_winnerIn_39 zn0 (by omega) (by omega) ?_
        refine z_goto eX12_winnerIn_42 rfl ?_
        refine ih (r - 1) (by omega) (s + 1) _ (by omega) ((zup_off (by decide)).trans hgD) (hmf.up (by omega) (by omega) rfl) (fun j hj2 => ?_)
        by_cases e : j = s
        · subst e; exact zup_at _ _ _ _
        · rw [zup_ne (by omega)]; exact hj j (by omega)
      · refine z_al0 eX12_winnerIn_23 ?_
        refine z_ga eX12_winnerIn_24 fX12_35 zs117 (t := 122) rfl ?_
        refine z_ki eX12_winnerIn_27 ?_
        refine z_il2 eX12_winnerIn_29 ?_
        refine z_iaddN eX12_winnerIn_30 (by omega) (by omega) ?_
        refine zr_iN eX12_winnerIn_31 zs122 (j := 20 + s) (by omega) (by omega) ?_
        refine z_goto eX12_winnerIn_32 rfl ?_
        rw [show g 122 (20 + s) = w s by rw [hgD, ← hxw s (by omega), if_pos c20]]
        refine zc_vv2 eX12_winnerIn_36 lX12_287 tX12_setVoters zs117 (by decide) (Nat.le_of_ble_eq_true rfl) (r_setVoters _ s (by omega) _) ?_
        rintro _ rfl
        refine z_incN2 eX12_winnerIn_39 zn0 (by omega) (by omega) ?_
        refine z_goto eX12_winnerIn_42 rfl ?_
        refine ih (r - 1) (by omega) (s + 1) _ (by omega) ((zup_off (by decide)).trans hgD) (hmf.up (by omega) (by omega) rfl) (fun j hj2 => ?_)
        by_cases e : j = s
        · subst e; exact zup_at _ _ _ _
        · rw [zup_ne (by omega)]; exact hj j (by omega)
theorem r_winnerIn (h : zHp) (D : Nat → Int) (hD : h 122 = D) (hb : dB D) (hst : D 2 < ((2 ^ nN D : Nat) : Int)) (x : Int) (w : Nat → Int) (hvb : vB D w) (hxw : ∀ s : Nat, s < nS D → (if zand (zshr x s) 1 = 1 then D (20 + s) else 0) = w s) : zCi mX12_winnerIn 7 [zA 117, zI x] h (fun v h' => inW D w = v ∧ zMf h h' ∧ h' 122 = D) := by
  refine z_enter [zA 117, zI x, zU] (by decide +kernel) (Nat.le_of_ble_eq_true rfl) rfl (fun hra hrg => ?_)
  refine z_ki eX12_winnerIn_0 ?_
  refine z_is2 eX12_winnerIn_1 zn0 ?_
  exact r_winnerIn_l h D hD hb hst x w hvb hxw _ 0 h (Nat.zero_add _) hD zMf.rf (fun j hj => by omega)
theorem r_partedBy (h : zHp) (D : Nat → Int) (hD : h 122 = D) (hb : dB D) (hst : D 2 < ((2 ^ nN D : Nat) : Int)) (set : Nat) (hset : set < 2147483648) : zCi mX12_partedBy 8 [zA 117, zI set] h (fun v h' => partOf D set = v ∧ zMf h h' ∧ h' 122 = D) := by
  refine z_enter [zA 117, zI set, zU, zU] (by decide +kernel) (Nat.le_of_ble_eq_true rfl) rfl (fun hra hrg => ?_)
  have hN := nN_eq hb
  have hS := nS_eq hb
  have hN8 := nN_le hb
  have hS20 := nS_le hb
  have hb2 := hb.2.2.1
  have hw1 := inW_b hb (wIn D set)
  have hw2 := inW_b hb (wNot D set)
  have hp1 := p2_256 hb (pHall_lt hb (wIn D set))
  have hp2 := p2_256 hb (pHall_lt hb (wNot D set))
  refine z_al0 eX12_partedBy_0 ?_
  refine z_il1 eX12_partedBy_1 ?_
  refine zc_vi1 eX12_partedBy_2 lX12_417 tX12_winnerIn zs117 (by decide) (Nat.le_of_ble_eq_true rfl) (r_winnerIn h D hD hb hst _ (wIn D set) (wIn_b hb set) (fun s hs => by unfold wIn; rw [kb_bit (by omega) (by omega)]; cases set.testBit s <;> rfl)) ?_
  rintro _ g1 ⟨rfl, m1, d1⟩ -
  refine z_is2 eX12_partedBy_5 zn0 ?_
  refine z_al0 eX12_partedBy_6 ?_
  refine z_il1 eX12_partedBy_7 ?_
  refine z_ki eX12_partedBy_8 ?_
  refine z_ixor eX12_partedBy_9 ?_
  refine zc_vi1 eX12_partedBy_10 lX12_417 tX12_winnerIn zs117 (by decide) (Nat.le_of_ble_eq_true rfl) (r_winnerIn g1 D d1 hb hst _ (wNot D set) (wNot_b hb set) (fun s hs => by unfold wNot; rw [kb_nbit (by omega)]; cases set.testBit s <;> rfl)) ?_
  rintro _ g2 ⟨rfl, m2, d2⟩ -
  refine z_is3 eX12_partedBy_13 zn0 ?_
  refine z_al0 eX12_partedBy_14 ?_
  refine zc_vv0 eX12_partedBy_15 lX12_320 tX12_countAll zs117 (by decide) (Nat.le_of_ble_eq_true rfl) (r_countAll _ _ d2 hb) ?_
  rintro _ rfl
  refine z_al0 eX12_partedBy_18 ?_
  refine z_il2 eX12_partedBy_19 ?_
  refine z_ige eX12_partedBy_20 rfl (fun c20 => ?_) (fun c20 => ?_)
  · refine z_ki eX12_partedBy_27 ?_
    refine z_il2 eX12_partedBy_28 ?_
    refine z_ishl eX12_partedBy_29 ?_
    rw [show zshl 1 (inW D (wIn D set)) = ((pHall D (wIn D set) : Nat) : Int) by
      obtain ⟨m, hm⟩ := Int.eq_ofNat_of_zero_le (show 0 ≤ inW D (wIn D set) by omega)
      rw [inW_pos (by omega), hm, kb_shl1 (by omega)]; rfl]
    refine z_il3 eX12_partedBy_30 ?_
    refine z_ige eX12_partedBy_31 rfl (fun c31 => ?_) (fun c31 => ?_)
    · refine z_ki eX12_partedBy_38 ?_
      refine z_il3 eX12_partedBy_39 ?_
      refine z_ishl eX12_partedBy_40 ?_
      rw [show zshl 1 (inW D (wNot D set)) = ((pHall D (wNot D set) : Nat) : Int) by
        obtain ⟨m, hm⟩ := Int.eq_ofNat_of_zero_le (show 0 ≤ inW D (wNot D set) by omega)
        rw [inW_pos (by omega), hm, kb_shl1 (by omega)]; rfl]
      refine z_ior eX12_partedBy_41 ?_
      rw [kb_or (by omega) (by omega)]
      refine zc_vi1 eX12_partedBy_42 lX12_323 tX12_winner zs117 (by decide) (Nat.le_of_ble_eq_true rfl) (r_winM (mW_cA d2) hb (inOf_b hb) _ (Nat.or_lt_two_pow (pHall_lt hb _) (pHall_lt hb _))) ?_
      rintro _ g3 ⟨rfl, hfr⟩ -
      refine ze_i eX12_partedBy_45 rfl ?_
      exact ⟨rfl, ((m1.tr m2).cA _ _ _).fr hfr (by decide) (fun _ => rfl), (hfr 122 (by decide)).trans ((cA_off (by decide) (by decide)).trans d2)⟩
    · refine z_ki eX12_partedBy_34 ?_
      refine z_goto eX12_partedBy_35 rfl ?_
      rw [show (0 : Int) = ((pHall D (wNot D set) : Nat) : Int) by rw [inW_neg (by omega)]; rfl]
      refine z_ior eX12_partedBy_41 ?_
      rw [kb_or (by omega) (by omega)]
      refine zc_vi1 eX12_partedBy_42 lX12_323 tX12_winner zs117 (by decide) (Nat.le_of_ble_eq_true rfl) (r_winM (mW_cA d2) hb (inOf_b hb) _ (Nat.or_lt_two_pow (pHall_lt hb _) (pHall_lt hb _))) ?_
      rintro _ g3 ⟨rfl, hfr⟩ -
      refine ze_i eX12_partedBy_45 rfl ?_
      exact ⟨rfl, ((m1.tr m2).cA _ _ _).fr hfr (by decide) (fun _ => rfl), (hfr 122 (by decide)).trans ((cA_off (by decide) (by decide)).trans d2)⟩
  · refine z_ki eX12_partedBy_23 ?_
    refine z_goto eX12_partedBy_24 rfl ?_
    rw [show (0 : Int) = ((pHall D (wIn D set) : Nat) : Int) by rw [inW_neg (by omega)]; rfl]
    refine z_il3 eX12_partedBy_30 ?_
    refine z_ige eX12_partedBy_31 rfl (fun c31 => ?_) (fun c31 => ?_)
    · refine z_ki eX12_partedBy_38 ?_
      refine z_il3 eX12_partedBy_39 ?_
      refine z_ishl eX12_partedBy_40 ?_
      rw [show zshl 1 (inW D (wNot D set)) = ((pHall D (wNot D set) : Nat) : Int) by
        obtain ⟨m, hm⟩ := Int.eq_ofNat_of_zero_le (show 0 ≤ inW D (wNot D set) by omega)
        rw [inW_pos (by omega), hm, kb_shl1 (by omega)]; rfl]
      refine z_ior eX12_partedBy_41 ?_
      rw [kb_or (by omega) (by omega)]
      refine zc_vi1 eX12_partedBy_42 lX12_323 tX12_winner zs117 (by decide) (Nat.le_of_ble_eq_true rfl) (r_winM (mW_cA d2) hb (inOf_b hb) _ (Nat.or_lt_two_pow (pHall_lt hb _) (pHall_lt hb _))) ?_
      rintro _ g3 ⟨rfl, hfr⟩ -
      refine ze_i eX12_partedBy_45 rfl ?_
      exact ⟨rfl, ((m1.tr m2).cA _ _ _).fr hfr (by decide) (fun _ => rfl), (hfr 122 (by decide)).trans ((cA_off (by decide) (by decide)).trans d2)⟩
    · refine z_ki eX12_partedBy_34 ?_
      refine z_goto eX12_partedBy_35 rfl ?_
      rw [show (0 : Int) = ((pHall D (wNot D set) : Nat) : Int) by rw [inW_neg (by omega)]; rfl]
      refine z_ior eX12_partedBy_41 ?_
      rw [kb_or (by omega) (by omega)]
      refine zc_vi1 eX12_partedBy_42 lX12_323 tX12_winner zs117 (by decide) (Nat.le_of_ble_eq_true rfl) (r_winM (mW_cA d2) hb (inOf_b hb) _ (Nat.or_lt_two_pow (pHall_lt hb _) (pHall_lt hb _))) ?_
      rintro _ g3 ⟨rfl, hfr⟩ -
      refine ze_i eX12_partedBy_45 rfl ?_
      exact ⟨rfl, ((m1.tr m2).cA _ _ _).fr hfr (by decide) (fun _ => rfl), (hfr 122 (by decide)).trans ((cA_off (by decide) (by decide)).trans d2)⟩
def qParted (D : Nat → Int) (x : Int) : Int × Int := if 0 ≤ x ∧ x < ((2 ^ nS D : Nat) : Int) then (if partOf D x.toNat < 0 then (-1, 8) else (partOf D x.toNat, 0)) else (-1, 2)
def prtF (D : Nat → Int) (k : Int) : Nat → Nat → Int
  | 0, _ => -1
  | r + 1, set => if partOf D set = k then (set : Int) else prtF D k r (set + 1)
def qParting (D : Nat → Int) (k : Int) : Int × Int := if 0 ≤ k ∧ k < D 0 then (if 12 < D 1 then (-1, 7) else if prtF D k (2 ^ nS D) 0 < 0 then (-1, 9) else (prtF D k (2 ^ nS D) 0, 0)) else (-1, 2)
theorem p2le20 {n : Nat} (h : n ≤ 20) : 2 ^ n ≤ 1048576 := Nat.pow_le_pow_right (by omega) h
theorem prtF_b (D : Nat → Int) (k : Int) : ∀ r set, -1 ≤ prtF D k r set := by
  intro r
  induction r with
  | zero => intro set; simp [prtF]
  | succ r ih =>
    intro set
    rw [prtF]
    split
    · omega
    · exact ih _
theorem partOf_b {D : Nat → Int} (hb : dB D) (set : Nat) : -1 ≤ partOf D set ∧ partOf D set < 8 := by
  have := winNow_b hb (pHall D (wIn D set) ||| pHall D (wNot D set))
  unfold partOf
  omega
theorem x_allSorts (h : zHp) (H : rHR h) : zCi mX5_allSorts 0 [zA 4] h (fun v h' => ((2 ^ nS (h 122) - 1 : Nat) : Int) = v ∧ h = h') := by
  refine z_enter [zA 4] (by decide +kernel) (Nat.le_of_ble_eq_true rfl) rfl (fun hra hrg => ?_)
  obtain ⟨⟨hb, hst, e0, e1, e7, ek, es, eo, hp⟩, hru⟩ := id H
  have hN := nN_eq hb
  have hS := nS_eq hb
  have hN8 := nN_le hb
  have hS20 := nS_le hb
  have hb2 := hb.2.2.1
  have hpp := Nat.two_pow_pos (nS (h 122))
  have h20 := p2le20 hS20
  refine z_ki eX5_allSorts_0 ?_
  refine z_al0 eX5_allSorts_1 ?_
  refine z_gi eX5_allSorts_2 fX5_51 zs4 ?_
  rw [show h 4 7 = ((nS (h 122) : Nat) : Int) by omega]
  refine z_ishl eX5_allSorts_5 ?_
  rw [kb_shl1 (by omega)]
  refine z_ki eX5_allSorts_6 ?_
  refine z_isubN eX5_allSorts_7 (by omega) (by omega) ?_
  refine ze_i eX5_allSorts_8 rfl ?_
  exact ⟨by omega, rfl⟩
theorem x_allNames (h : zHp) (H : rHR h) : zCi mX5_allNames 0 [zA 4] h (fun v h' => ((2 ^ nN (h 122) - 1 : Nat) : Int) = v ∧ h = h') := by
  refine z_enter [zA 4] (by decide +kernel) (Nat.le_of_ble_eq_true rfl) rfl (fun hra hrg => ?_)
  obtain ⟨⟨hb, hst, e0, e1, e7, ek, es, eo, hp⟩, hru⟩ := id H
  have hN := nN_eq hb
  have hS := nS_eq hb
  have hN8 := nN_le hb
  have hS20 := nS_le hb
  have hb2 := hb.2.2.1
  have hpp := Nat.two_pow_pos (nN (h 122))
  have h20 := p2le hN8
  refine z_ki eX5_allNames_0 ?_
  refine z_al0 eX5_allNames_1 ?_
  refine z_gi eX5_allNames_2 fX5_40 zs4 ?_
  rw [show h 4 0 = ((nN (h 122) : Nat) : Int) by omega]
  refine z_ishl eX5_allNames_5 ?_
  rw [kb_shl1 (by omega)]
  refine z_ki eX5_allNames_6 ?_
  refine z_isubN eX5_allNames_7 (by omega) (by omega) ?_
  refine ze_i eX5_allNames_8 rfl ?_
  exact ⟨by omega, rfl⟩
theorem x_parted (h : zHp) (H : rHR h) (x : Int) : zCi mX11_parted 6 [zA 0, zI x] h (fun v h' => pX0 h (qParted (h 122) x) v h') := by
  refine z_enter [zA 0, zI x, zU] (by decide +kernel) (Nat.le_of_ble_eq_true rfl) rfl (fun hra hrg => ?_)
  obtain ⟨⟨hb, hst, e0, e1, e7, ek, es, eo, hp⟩, hru⟩ := id H
  have hN := nN_eq hb
  have hS := nS_eq hb
  have hN8 := nN_le hb
  have hS20 := nS_le hb
  have hb2 := hb.2.2.1
  have hx32 : z32 x := hra (zI x) (by simp)
  have h20 := p2le20 hS20
  refine z_il1 eX11_parted_0 ?_
  refine z_al0 eX11_parted_1 ?_
  refine z_ga eX11_parted_2 fX11_25 zs0 (t := 4) rfl ?_
  refine zc_vi0 eX11_parted_5 lX11_326 tX5_allSorts zs4 (by decide) (Nat.le_of_ble_eq_true rfl) (x_allSorts _ H) ?_
  rintro _ _ ⟨rfl, rfl⟩ -
  refine z_ki eX11_parted_8 ?_
  refine z_ixor eX11_parted_9 ?_
  refine z_iand eX11_parted_10 ?_
  refine z_ieq eX11_parted_11 rfl (fun c11 => ?_) (fun c11 => ?_)
  · rw [kb_sub hx32 (by omega)] at c11
    refine z_al0 eX11_parted_20 ?_
    refine z_ga eX11_parted_21 fX11_65 zs0 (t := 50) rfl ?_
    refine z_il1 eX11_parted_24 ?_
    obtain ⟨x, rfl⟩ := Int.eq_ofNat_of_zero_le c11.1
    refine zc_vi1 eX11_parted_25 lX11_329 tX2_partedWinner zs50 (by decide) (Nat.le_of_ble_eq_true rfl) (x_partW h H _ rfl x (by omega)) ?_
    rintro _ g ⟨rfl, hxf⟩ -
    have hpb := partOf_b hb x
    refine z_is2 eX11_parted_28 zn0 ?_
    refine z_il2 eX11_parted_29 ?_
    refine z_ki eX11_parted_30 ?_
    refine z_cne eX11_parted_31 rfl (fun c31 => ?_) (fun c31 => ?_)
    · refine z_al0 eX11_parted_43 ?_
      refine z_il2 eX11_parted_44 ?_
      refine zc_vi1 eX11_parted_45 lX11_202 tX11_answer zs0 (by decide) (Nat.le_of_ble_eq_true rfl) (x_answer _ _) ?_
      rintro _ _ ⟨rfl, rfl⟩ -
      refine ze_i eX11_parted_48 rfl ?_
      exact pX0_f hxf (by unfold qParted; simp only [Int.toNat_natCast]; (repeat' split) <;> first | (exfalso; omega) | rfl)
    · refine z_al0 eX11_parted_34 ?_
      refine z_ki eX11_parted_35 ?_
      refine zc_vi1 eX11_parted_37 lX11_153 tX11_fail zs0 (by decide) (Nat.le_of_ble_eq_true rfl) (x_fail _ _) ?_
      rintro _ _ ⟨rfl, rfl⟩ -
      refine z_goto eX11_parted_40 rfl ?_
      refine ze_i eX11_parted_48 rfl ?_
      exact pX0_f hxf (by unfold qParted; simp only [Int.toNat_natCast]; (repeat' split) <;> first | (exfalso; omega) | rfl)
  · rw [kb_sub hx32 (by omega)] at c11
    refine z_al0 eX11_parted_14 ?_
    refine z_ki eX11_parted_15 ?_
    refine zc_vi1 eX11_parted_16 lX11_153 tX11_fail zs0 (by decide) (Nat.le_of_ble_eq_true rfl) (x_fail _ _) ?_
    rintro _ _ ⟨rfl, rfl⟩ -
    refine ze_i eX11_parted_19 rfl ?_
    exact pX0_f zXf.rf (by unfold qParted; (repeat' split) <;> first | (exfalso; omega) | rfl)
theorem r_parted (h : zHp) (D : Nat → Int) (hD : h 122 = D) (hb : dB D) (hst : D 2 < ((2 ^ nN D : Nat) : Int)) (x : Int) : zCi mX12_parted 9 [zA 117, zI x] h (fun v h' => pM0 h (qParted D x) v h') := by
  refine z_enter [zA 117, zI x, zU] (by decide +kernel) (Nat.le_of_ble_eq_true rfl) rfl (fun hra hrg => ?_)
  refine z_al0 eX12_parted_0 ?_
  refine z_ki eX12_parted_1 ?_
  refine z_pi eX12_parted_2 pX12_98 zs117 ?_
  refine z_al0 eX12_parted_5 ?_
  refine z_ki eX12_parted_6 ?_
  refine z_pi eX12_parted_7 pX12_101 zs117 ?_
  generalize hg : zup (zup h 117 1 0) 117 0 0 = g
  obtain ⟨ga, gf, g0⟩ := m_g hg
  have gD : g 122 = D := (ga 122 (by decide)).trans hD
  subst gD
  have hN := nN_eq hb
  have hS := nS_eq hb
  have hN8 := nN_le hb
  have hS20 := nS_le hb
  have hb2 := hb.2.2.1
  have h20 := p2le20 hS20
  have hpp := Nat.two_pow_pos (nS (g 122))
  refine z_il1 eX12_parted_10 ?_
  refine z_i2l eX12_parted_11 ?_
  refine z_kj eX12_parted_12 ?_
  refine z_ki eX12_parted_13 ?_
  refine z_al0 eX12_parted_14 ?_
  refine z_ga eX12_parted_15 fX12_35 zs117 (t := 122) rfl ?_
  refine z_ki eX12_parted_18 ?_
  refine zr_iN eX12_parted_19 zs122 (j := 1) (by omega) (by omega) ?_
  rw [hS]
  refine z_ishl eX12_parted_20 ?_
  rw [kb_shl1 (by omega)]
  refine z_ki eX12_parted_21 ?_
  refine z_isubN eX12_parted_22 (by omega) (by omega) ?_
  refine z_i2l eX12_parted_23 ?_
  refine zc_si3 eX12_parted_24 lX12_133 tX12_isIn (by decide) (Nat.le_of_ble_eq_true rfl) (r_isIn _ _ _ _) ?_
  rintro _ _ ⟨rfl, rfl⟩ -
  refine z_ine eX12_parted_27 rfl (fun c27 => ?_) (fun c27 => ?_)
  · have z27 := iteT c27
    refine z_al0 eX12_parted_36 ?_
    refine z_il1 eX12_parted_37 ?_
    obtain ⟨x, rfl⟩ := Int.eq_ofNat_of_zero_le z27.1
    refine zc_vi1 eX12_parted_38 lX12_420 tX12_partedBy zs117 (by decide) (Nat.le_of_ble_eq_true rfl) (r_partedBy g _ rfl hb hst x (by omega)) ?_
    rintro _ g1 ⟨rfl, hmf, -⟩ -
    refine z_is2 eX12_parted_41 zn0 ?_
    refine z_il2 eX12_parted_42 ?_
    refine z_ige eX12_parted_43 rfl (fun c43 => ?_) (fun c43 => ?_)
    · refine z_il2 eX12_parted_55 ?_
      refine ze_i eX12_parted_56 rfl ?_
      exact pM0_f hg hmf (by unfold qParted; simp only [Int.toNat_natCast]; (repeat' split) <;> first | (exfalso; omega) | rfl)
    · refine z_al0 eX12_parted_46 ?_
      refine z_ki eX12_parted_47 ?_
      refine zc_vi1 eX12_parted_49 lX12_275 tX12_refuse zs117 (by decide) (Nat.le_of_ble_eq_true rfl) (r_refuse _ _) ?_
      rintro _ _ ⟨rfl, rfl⟩ -
      refine z_goto eX12_parted_52 rfl ?_
      refine ze_i eX12_parted_56 rfl ?_
      exact pM0_fr hg hmf (by unfold qParted; simp only [Int.toNat_natCast]; (repeat' split) <;> first | (exfalso; omega) | rfl)
  · have z27 := iteF c27
    refine z_al0 eX12_parted_30 ?_
    refine z_ki eX12_parted_31 ?_
    refine zc_vi1 eX12_parted_32 lX12_275 tX12_refuse zs117 (by decide) (Nat.le_of_ble_eq_true rfl) (r_refuse _ _) ?_
    rintro _ _ ⟨rfl, rfl⟩ -
    refine ze_i eX12_parted_35 rfl ?_
    exact pM0_fr hg zMf.rf (by unfold qParted; (repeat' split) <;> first | (exfalso; omega) | rfl)
theorem x_parting_l (h : zHp) (H : rHR h) (D : Nat → Int) (hD : h 122 = D) (h12 : nS D ≤ 12) (k : Int) : ∀ (r set : Nat) (g : zHp), set + r = 2 ^ nS D → zXf h g → zRW mX11_parting 6 (0, 0) 43 [zA 0, zI k, zI ((2 ^ nS D - 1 : Nat) : Int), zI set] [] 143 g (zqi (fun v h' => pX0 h (if prtF D k r set < 0 then (-1, 9) else (prtF D k r set, 0)) v h')) := by
  have h20 := p2le20 (show nS D ≤ 20 by omega)
  have hpp := Nat.two_pow_pos (nS D)
  intro r
  induction r using Nat.strongRecOn with
  | ind r ih =>
    intro set g hs hg
    have Hg := H.xf hg
    have e122 : g 122 = D := (hg.2.1 122 (by omega)).trans hD
    obtain ⟨⟨hb, hst, e0, e1, e7, ek, es, eo, hp⟩, hru⟩ : hallR g 4 D (g 123) ∧ ruleR g 24 D := by rw [← e122]; exact Hg
    have hN := nN_eq hb
    have hS := nS_eq hb
    have hN8 := nN_le hb
    have hS20 := nS_le hb
    have hb2 := hb.2.2.1
    refine z_il3 eX11_parting_43 ?_
    refine z_il2 eX11_parting_44 ?_
    refine z_cgt eX11_parting_45 rfl (fun c45 => ?_) (fun c45 => ?_)
    · refine z_al0 eX11_parting_72 ?_
      refine z_ki eX11_parting_73 ?_
      refine zc_vi1 eX11_parting_75 lX11_153 tX11_fail zs0 (by decide) (Nat.le_of_ble_eq_true rfl) (x_fail _ _) ?_
      rintro _ _ ⟨rfl, rfl⟩ -
      refine ze_i eX11_parting_78 rfl ?_
      have e : r = 0 := by omega
      subst e
      rw [show prtF D k 0 set = -1 from rfl, if_pos (by omega)]
      exact pX0_f hg rfl
    · obtain ⟨q, rfl⟩ : ∃ q, r = q + 1 := ⟨r - 1, by omega⟩
      refine z_al0 eX11_parting_48 ?_
      refine z_ga eX11_parting_49 fX11_65 zs0 (t := 50) rfl ?_
      refine z_il3 eX11_parting_52 ?_
      refine zc_vi1 eX11_parting_53 lX11_329 tX2_partedWinner zs50 (by decide) (Nat.le_of_ble_eq_true rfl) (x_partW g Hg D e122 set (by omega)) ?_
      rintro _ g2 ⟨rfl, hxf⟩ -
      refine z_il1 eX11_parting_56 ?_
      refine z_cne eX11_parting_57 rfl (fun c57 => ?_) (fun c57 => ?_)
      · refine z_incN3 eX11_parting_66 zn0 (by omega) (by omega) ?_
        refine z_goto eX11_parting_69 rfl ?_
        rw [show prtF D k (q + 1) set = prtF D k q (set + 1) by rw [prtF, if_neg c57]]
        exact ih q (by omega) (set + 1) g2 (by omega) (hg.tr hxf)
      · refine z_al0 eX11_parting_60 ?_
        refine z_il3 eX11_parting_61 ?_
        refine zc_vi1 eX11_parting_62 lX11_202 tX11_answer zs0 (by decide) (Nat.le_of_ble_eq_true rfl) (x_answer _ _) ?_
        rintro _ _ ⟨rfl, rfl⟩ -
        refine ze_i eX11_parting_65 rfl ?_
        rw [show prtF D k (q + 1) set = (set : Int) by rw [prtF, if_pos c57], if_neg (by omega)]
        exact pX0_f (hg.tr hxf) rfl
theorem x_parting (h : zHp) (H : rHR h) (k : Int) : zCi mX11_parting 6 [zA 0, zI k] h (fun v h' => pX0 h (qParting (h 122) k) v h') := by
  refine z_enter [zA 0, zI k, zU, zU] (by decide +kernel) (Nat.le_of_ble_eq_true rfl) rfl (fun hra hrg => ?_)
  obtain ⟨⟨hb, hst, e0, e1, e7, ek, es, eo, hp⟩, hru⟩ := id H
  have hN := nN_eq hb
  have hS := nS_eq hb
  have hN8 := nN_le hb
  have hS20 := nS_le hb
  have hb2 := hb.2.2.1
  refine z_al0 eX11_parting_0 ?_
  refine z_il1 eX11_parting_1 ?_
  refine zc_vi1 eX11_parting_2 lX11_224 tX11_isName zs0 (by decide) (Nat.le_of_ble_eq_true rfl) (x_isName _ H _) ?_
  rintro _ _ ⟨rfl, rfl⟩ -
  refine z_ine eX11_parting_5 rfl (fun c5 => ?_) (fun c5 => ?_)
  · have z5 := iteT c5
    refine z_al0 eX11_parting_14 ?_
    refine z_ga eX11_parting_15 fX11_25 zs0 (t := 4) rfl ?_
    refine z_gi eX11_parting_18 fX11_123 zs4 ?_
    refine z_ki eX11_parting_21 ?_
    refine z_cle eX11_parting_23 rfl (fun c23 => ?_) (fun c23 => ?_)
    · refine z_al0 eX11_parting_33 ?_
      refine z_ga eX11_parting_34 fX11_25 zs0 (t := 4) rfl ?_
      refine zc_vi0 eX11_parting_37 lX11_326 tX5_allSorts zs4 (by decide) (Nat.le_of_ble_eq_true rfl) (x_allSorts _ H) ?_
      rintro _ _ ⟨rfl, rfl⟩ -
      refine z_is2 eX11_parting_40 zn0 ?_
      refine z_ki eX11_parting_41 ?_
      refine z_is3 eX11_parting_42 zn0 ?_
      rw [show qParting (h 122) k = (if prtF (h 122) k (2 ^ nS (h 122)) 0 < 0 then (-1, 9) else (prtF (h 122) k (2 ^ nS (h 122)) 0, 0)) by unfold qParting; rw [if_pos z5, if_neg (by omega)]]
      exact x_parting_l h H _ rfl (by omega) k _ 0 h (Nat.zero_add _) zXf.rf
    · refine z_al0 eX11_parting_26 ?_
      refine z_ki eX11_parting_27 ?_
      refine zc_vi1 eX11_parting_29 lX11_153 tX11_fail zs0 (by decide) (Nat.le_of_ble_eq_true rfl) (x_fail _ _) ?_
      rintro _ _ ⟨rfl, rfl⟩ -
      refine ze_i eX11_parting_32 rfl ?_
      exact pX0_f zXf.rf (by unfold qParting; (repeat' split) <;> first | (exfalso; omega) | rfl)
  · have z5 := iteF c5
    refine z_al0 eX11_parting_8 ?_
    refine z_ki eX11_parting_9 ?_
    refine zc_vi1 eX11_parting_10 lX11_153 tX11_fail zs0 (by decide) (Nat.le_of_ble_eq_true rfl) (x_fail _ _) ?_
    rintro _ _ ⟨rfl, rfl⟩ -
    refine ze_i eX11_parting_13 rfl ?_
    exact pX0_f zXf.rf (by unfold qParting; (repeat' split) <;> first | (exfalso; omega) | rfl)
theorem r_parting_l (h g0 : zHp) (hg : zup (zup h 117 1 0) 117 0 0 = g0) (D : Nat → Int) (hb : dB D) (hst : D 2 < ((2 ^ nN D : Nat) : Int)) (h12 : nS D ≤ 12) (k : Int) : ∀ (r set : Nat) (g : zHp), set + r = 2 ^ nS D → zMf g0 g → g 122 = D → zRW mX12_parting 9 (0, 0) 44 [zA 117, zI k, zI set] [] 143 g (zqi (fun v h' => pM0 h (if prtF D k r set < 0 then (-1, 9) else (prtF D k r set, 0)) v h')) := by
  have hN := nN_eq hb
  have hS := nS_eq hb
  have hN8 := nN_le hb
  have hS20 := nS_le hb
  have hb2 := hb.2.2.1
  have h20 := p2le20 (show nS D ≤ 20 by omega)
  have hpp := Nat.two_pow_pos (nS D)
  intro r
  induction r using Nat.strongRecOn with
  | ind r ih =>
    intro set g hs hmf hgD
    have d1 : g 122 1 = (nS D : Int) := by rw [hgD]; exact hS
    refine z_il2 eX12_parting_44 ?_
    refine z_ki eX12_parting_45 ?_
    refine z_al0 eX12_parting_46 ?_
    refine z_ga eX12_parting_47 fX12_35 zs117 (t := 122) rfl ?_
    refine z_ki eX12_parting_50 ?_
    refine zr_iN eX12_parting_51 zs122 (j := 1) (by omega) (by omega) ?_
    rw [d1]
    refine z_ishl eX12_parting_52 ?_
    rw [kb_shl1 (by omega)]
    refine z_cge eX12_parting_53 rfl (fun c53 => ?_) (fun c53 => ?_)
    · refine z_al0 eX12_parting_73 ?_
      refine z_ki eX12_parting_74 ?_
      refine zc_vi1 eX12_parting_76 lX12_275 tX12_refuse zs117 (by decide) (Nat.le_of_ble_eq_true rfl) (r_refuse _ _) ?_
      rintro _ _ ⟨rfl, rfl⟩ -
      refine ze_i eX12_parting_79 rfl ?_
      have e : r = 0 := by omega
      subst e
      rw [show prtF D k 0 set = -1 from rfl, if_pos (by omega)]
      exact pM0_fr hg hmf rfl
    · obtain ⟨q, rfl⟩ : ∃ q, r = q + 1 := ⟨r - 1, by omega⟩
      refine z_al0 eX12_parting_56 ?_
      refine z_il2 eX12_parting_57 ?_
      refine zc_vi1 eX12_parting_58 lX12_420 tX12_partedBy zs117 (by decide) (Nat.le_of_ble_eq_true rfl) (r_partedBy g D hgD hb hst set (by omega)) ?_
      rintro _ g2 ⟨rfl, hmf2, hd2⟩ -
      refine z_il1 eX12_parting_61 ?_
      refine z_cne eX12_parting_62 rfl (fun c62 => ?_) (fun c62 => ?_)
      · refine z_incN2 eX12_parting_67 zn0 (by omega) (by omega) ?_
        refine z_goto eX12_parting_70 rfl ?_
        rw [show prtF D k (q + 1) set = prtF D k q (set + 1) by rw [prtF, if_neg c62]]
        exact ih q (by omega) (set + 1) g2 (by omega) (hmf.tr hmf2) hd2
      · refine z_il2 eX12_parting_65 ?_
        refine ze_i eX12_parting_66 rfl ?_
        rw [show prtF D k (q + 1) set = (set : Int) by rw [prtF, if_pos c62], if_neg (by omega)]
        exact pM0_f hg (hmf.tr hmf2) rfl
theorem r_parting (h : zHp) (D : Nat → Int) (hD : h 122 = D) (hb : dB D) (hst : D 2 < ((2 ^ nN D : Nat) : Int)) (k : Int) : zCi mX12_parting 9 [zA 117, zI k] h (fun v h' => pM0 h (qParting D k) v h') := by
  refine z_enter [zA 117, zI k, zU] (by decide +kernel) (Nat.le_of_ble_eq_true rfl) rfl (fun hra hrg => ?_)
  refine z_al0 eX12_parting_0 ?_
  refine z_ki eX12_parting_1 ?_
  refine z_pi eX12_parting_2 pX12_98 zs117 ?_
  refine z_al0 eX12_parting_5 ?_
  refine z_ki eX12_parting_6 ?_
  refine z_pi eX12_parting_7 pX12_101 zs117 ?_
  generalize hg : zup (zup h 117 1 0) 117 0 0 = g
  obtain ⟨ga, gf, g0⟩ := m_g hg
  have gD : g 122 = D := (ga 122 (by decide)).trans hD
  subst gD
  have hN := nN_eq hb
  have hS := nS_eq hb
  have hN8 := nN_le hb
  have hS20 := nS_le hb
  have hb2 := hb.2.2.1
  refine z_al0 eX12_parting_10 ?_
  refine z_il1 eX12_parting_11 ?_
  refine zc_vi1 eX12_parting_12 lX12_278 tX12_isName zs117 (by decide) (Nat.le_of_ble_eq_true rfl) (r_isName _ _ rfl hb _) ?_
  rintro _ _ ⟨rfl, rfl⟩ -
  refine z_ine eX12_parting_15 rfl (fun c15 => ?_) (fun c15 => ?_)
  · have z15 := iteT c15
    refine z_al0 eX12_parting_24 ?_
    refine z_ga eX12_parting_25 fX12_35 zs117 (t := 122) rfl ?_
    refine z_ki eX12_parting_28 ?_
    refine zr_iN eX12_parting_29 zs122 (j := 1) (by omega) (by omega) ?_
    refine z_ki eX12_parting_30 ?_
    refine z_cle eX12_parting_32 rfl (fun c32 => ?_) (fun c32 => ?_)
    · refine z_ki eX12_parting_42 ?_
      refine z_is2 eX12_parting_43 zn0 ?_
      rw [show qParting (g 122) k = (if prtF (g 122) k (2 ^ nS (g 122)) 0 < 0 then (-1, 9) else (prtF (g 122) k (2 ^ nS (g 122)) 0, 0)) by unfold qParting; rw [if_pos z15, if_neg (by omega)]]
      exact r_parting_l h g hg _ hb hst (by omega) k _ 0 g (Nat.zero_add _) zMf.rf rfl
    · refine z_al0 eX12_parting_35 ?_
      refine z_ki eX12_parting_36 ?_
      refine zc_vi1 eX12_parting_38 lX12_275 tX12_refuse zs117 (by decide) (Nat.le_of_ble_eq_true rfl) (r_refuse _ _) ?_
      rintro _ _ ⟨rfl, rfl⟩ -
      refine ze_i eX12_parting_41 rfl ?_
      exact pM0_fr hg zMf.rf (by unfold qParting; (repeat' split) <;> first | (exfalso; omega) | rfl)
  · have z15 := iteF c15
    refine z_al0 eX12_parting_18 ?_
    refine z_ki eX12_parting_19 ?_
    refine zc_vi1 eX12_parting_20 lX12_275 tX12_refuse zs117 (by decide) (Nat.le_of_ble_eq_true rfl) (r_refuse _ _) ?_
    rintro _ _ ⟨rfl, rfl⟩ -
    refine ze_i eX12_parting_23 rfl ?_
    exact pM0_fr hg zMf.rf (by unfold qParting; (repeat' split) <;> first | (exfalso; omega) | rfl)
