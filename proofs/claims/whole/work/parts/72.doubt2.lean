-- doubt (written by wip/tools/specD3.py)
def wiN (f : Nat → Int) : Nat → Bool
  | 0 => true
  | n + 1 => wiN f n && decide (0 ≤ f n ∧ f n ≤ 16)
theorem wiN_all {f : Nat → Int} : ∀ {n : Nat}, wiN f n = true → ∀ k, k < n → 0 ≤ f k ∧ f k ≤ 16 := by
  intro n
  induction n with
  | zero => intro _ k hk; omega
  | succ n ih =>
    intro h k hk
    rw [wiN, Bool.and_eq_true] at h
    by_cases e : k = n
    · subst e; exact of_decide_eq_true h.2
    · exact ih h.1 k (by omega)
theorem wiN_no {f : Nat → Int} {n k : Nat} (hk : k < n) (h : ¬ (0 ≤ f k ∧ f k ≤ 16)) : ¬ wiN f n = true := fun q => h (wiN_all q k hk)
theorem wiN_cg {f g : Nat → Int} : ∀ n, (∀ k, k < n → f k = g k) → wiN f n = wiN g n := by
  intro n
  induction n with
  | zero => intro _; rfl
  | succ n ih => intro h; rw [wiN, wiN, ih (fun k hk => h k (by omega)), h n (by omega)]
def cDbt (h : zHp) (D : Nat → Int) (t a : Int) : Int := if 0 ≤ t ∧ t < 4 then (if 0 ≤ a ∧ a < D 0 then (if h 119 t.toNat < 0 then 3 else if h 119 t.toNat < D 1 then 4 else if wiN (nums h t.toNat) (nS D) = true then (if 12 < allV D then 7 else 0) else 5) else 2) else 1
def qC (c : Int) : Int × Int := if c = 0 then (1, 0) else (0, c)
theorem qC_0 {c : Int} (h : c = 0) : qC c = (1, 0) := if_pos h
theorem qC_n {c : Int} (h : ¬ c = 0) : qC c = (0, c) := if_neg h
def shN (h : zHp) (t : Nat) : Nat → Nat := fun j => (nums h t j).toNat
def dO (h : zHp) (D : Nat → Int) (t a : Int) : Nat := dF D a (shN h t.toNat) (nS D) 0 (fun _ => 0) 1
theorem rst_sum {D : Nat → Int} (hb : dB D) : ∀ r s, s + r ≤ nS D → ((rst D r s : Nat) : Int) = sumN (inOf D) (s + r) - sumN (inOf D) s := by
  intro r
  induction r with
  | zero => intro s _; rw [rst, Nat.add_zero]; omega
  | succ r ih =>
    intro s hs
    have h1 := ih (s + 1) (by omega)
    have h2 := hb.2.2.2.2.1 s (by omega)
    have h3 : sumN (inOf D) (s + 1) = sumN (inOf D) s + D (20 + s) := rfl
    rw [rst, Int.natCast_add, h1, show s + 1 + r = s + (r + 1) by omega, h3]
    unfold inN
    omega
theorem rst_all {D : Nat → Int} (hb : dB D) : ((rst D (nS D) 0 : Nat) : Int) = allV D := by
  rw [rst_sum hb (nS D) 0 (by omega), Nat.zero_add]
  show sumN (inOf D) (nS D) - 0 = allV D
  unfold allV
  omega
theorem in_all {D : Nat → Int} (hb : dB D) : ∀ n, n ≤ nS D → ∀ j, j < n → (inN D j : Int) ≤ sumN (inOf D) n := by
  intro n
  induction n with
  | zero => intro _ j hj; omega
  | succ n ih =>
    intro hn j hj
    have h2 := hb.2.2.2.2.1 n (by omega)
    have h3 : sumN (inOf D) (n + 1) = sumN (inOf D) n + D (20 + n) := rfl
    have h4 := vB_sum (inOf_b hb) (s := n) (by omega)
    by_cases e : j = n
    · subst e
      unfold inN
      omega
    · have := ih (by omega) j (by omega)
      omega
theorem okI_of {D : Nat → Int} (hb : dB D) (h12 : allV D ≤ 12) {sh : Nat → Nat} (hs : ∀ j, j < nS D → sh j ≤ 16) : okI D sh := fun j hj => ⟨by have := in_all hb (nS D) (Nat.le_refl _) j hj; unfold allV at h12; omega, hs j hj⟩
/-- the fraction o by u without a common divisor -/
def frT (o u : Nat) : Int := ((o / Nat.gcd u o : Nat) : Int)
def frB (o u : Nat) : Int := ((u / Nat.gcd u o : Nat) : Int)
theorem x_within_l (h : zHp) (t : Nat) (ht : t < 4) (n : Nat) (hn : n ≤ 20) (hsz : (n : Int) ≤ h (67 + 2 * t) 2) : ∀ (r k : Nat), k + r = n → wiN (h (68 + 2 * t)) k = true → zRW mX10_within 0 (0, 0) 2 [zA (67 + 2 * t), zI n, zI 16, zI k] [] 143 h (zqi (fun v h' => (if wiN (h (68 + 2 * t)) n = true then 1 else 0) = v ∧ h = h')) := by
  intro r
  induction r using Nat.strongRecOn with
  | ind r ih =>
    intro k hk hok
    refine z_il3 eX10_within_2 ?_
    refine z_il1 eX10_within_3 ?_
    refine z_cge eX10_within_4 rfl (fun c4 => ?_) (fun c4 => ?_)
    · refine z_ki eX10_within_46 ?_
      refine ze_z eX10_within_47 rfl (by first | exact Or.inl rfl | exact Or.inr rfl) ?_
      have e : k = n := by omega
      subst e
      exact ⟨if_pos hok, rfl⟩
    · refine z_il3 eX10_within_7 ?_
      refine z_al0 eX10_within_8 ?_
      refine z_gi eX10_within_9 fX10_23 (zTr2 ht) ?_
      refine z_cge eX10_within_12 rfl (fun c12 => ?_) (fun c12 => ?_)
      · refine z_ki eX10_within_46 ?_
        refine ze_z eX10_within_47 rfl (by first | exact Or.inl rfl | exact Or.inr rfl) ?_
        have e : k = n := by omega
        subst e
        exact ⟨if_pos hok, rfl⟩
      · refine z_al0 eX10_within_15 ?_
        refine z_ga eX10_within_16 fX10_9 (zTr2 ht) (t := (68 + 2 * t)) (zTr3 ht) ?_
        refine z_il3 eX10_within_19 ?_
        refine zr_lN eX10_within_20 (zTr4 ht) (j := k) (by omega) (by omega) ?_
        refine z_kj eX10_within_21 ?_
        refine z_lcmp eX10_within_22 ?_
        refine z_ilt eX10_within_23 rfl (fun c23 => ?_) (fun c23 => ?_)
        · rw [zcmp_lt] at c23
          refine z_ki eX10_within_38 ?_
          refine ze_z eX10_within_39 rfl (by first | exact Or.inl rfl | exact Or.inr rfl) ?_
          exact ⟨if_neg (wiN_no (show k < n by omega) (by omega)), rfl⟩
        · rw [zcmp_lt] at c23
          refine z_al0 eX10_within_26 ?_
          refine z_ga eX10_within_27 fX10_9 (zTr2 ht) (t := (68 + 2 * t)) (zTr3 ht) ?_
          refine z_il3 eX10_within_30 ?_
          refine zr_lN eX10_within_31 (zTr4 ht) (j := k) (by omega) (by omega) ?_
          refine z_il2 eX10_within_32 ?_
          refine z_i2l eX10_within_33 ?_
          refine z_lcmp eX10_within_34 ?_
          refine z_ile eX10_within_35 rfl (fun c35 => ?_) (fun c35 => ?_)
          · rw [zcmp_le] at c35
            refine z_incN3 eX10_within_40 zn0 (by omega) (by omega) ?_
            refine z_goto eX10_within_43 rfl ?_
            exact ih (r - 1) (by omega) (k + 1) (by omega) (by rw [wiN, hok, Bool.true_and]; exact decide_eq_true ⟨by omega, by omega⟩)
          · rw [zcmp_le] at c35
            refine z_ki eX10_within_38 ?_
            refine ze_z eX10_within_39 rfl (by first | exact Or.inl rfl | exact Or.inr rfl) ?_
            exact ⟨if_neg (wiN_no (show k < n by omega) (by omega)), rfl⟩
theorem x_within (h : zHp) (t : Nat) (ht : t < 4) (n : Nat) (hn : n ≤ 20) (hsz : (n : Int) ≤ h (67 + 2 * t) 2) : zCi mX10_within 0 [zA (67 + 2 * t), zI n, zI 16] h (fun v h' => (if wiN (h (68 + 2 * t)) n = true then 1 else 0) = v ∧ h = h') := by
  refine z_enter [zA (67 + 2 * t), zI n, zI 16, zU] (by decide +kernel) (Nat.le_of_ble_eq_true rfl) rfl (fun hra hrg => ?_)
  refine z_ki eX10_within_0 ?_
  refine z_is3 eX10_within_1 zn0 ?_
  exact x_within_l h t ht n hn hsz n 0 (Nat.zero_add _) rfl
theorem x_doubtful (h : zHp) (H : rHR h) (a : Int) (t : Nat) (ht : t < 4) (sh : Nat → Nat) (h12 : allV (h 122) ≤ 12) (hsh : ∀ j : Nat, j < nS (h 122) → h (68 + 2 * t) j = (sh j : Int) ∧ sh j ≤ 16) : zCv mX1_doubtful 25 [zA 63, zI a, zA (67 + 2 * t)] h (fun h' => h' 63 5 = frT (dF (h 122) a sh (nS (h 122)) 0 (fun _ => 0) 1) (16 ^ (allV (h 122)).toNat) ∧ h' 63 6 = frB (dF (h 122) a sh (nS (h 122)) 0 (fun _ => 0) 1) (16 ^ (allV (h 122)).toNat) ∧ zEx [9] h h' ∧ (∀ c : Nat, 117 ≤ c → h' c = h c) ∧ h' 0 0 = h 0 0) := by
  refine z_enter [zA 63, zI a, zA (67 + 2 * t)] (by decide +kernel) (Nat.le_of_ble_eq_true rfl) rfl (fun hra hrg => ?_)
  obtain ⟨⟨hb, hst, e0, e1, e7, ek, es, eo, hp⟩, hru⟩ := id H
  have hN := nN_eq hb
  have hS := nS_eq hb
  have hN8 := nN_le hb
  have hS20 := nS_le hb
  have hb2 := hb.2.2.1
  have hra12 := rst_all hb
  have h0v : 0 ≤ allV (h 122) := (vB_sum3960 hb (inOf_b hb)).1
  have hok : okI (h 122) sh := okI_of hb h12 (fun j hj => (hsh j hj).2)
  have hg1 : zXf h (zup (zup h 63 3 a) 63 4 0) := (zXf.rf.up (by omega) (by omega) rfl).up (by omega) (by omega) rfl
  have hrs : rst (h 122) (nS (h 122)) 0 = (allV (h 122)).toNat := by omega
  have hrs12 : rst (h 122) (nS (h 122)) 0 ≤ 12 := by rw [hrs]; omega
  have hpw : 16 ^ rst (h 122) (nS (h 122)) 0 ≤ 281474976710656 := pw_b (Nat.le_refl 16) hrs12
  refine z_al0 eX1_doubtful_0 ?_
  refine z_il1 eX1_doubtful_1 ?_
  refine z_pi eX1_doubtful_2 pX1_30 zs63 ?_
  refine z_al0 eX1_doubtful_5 ?_
  refine z_kj eX1_doubtful_6 ?_
  refine z_pj eX1_doubtful_7 pX1_34 zs63 ?_
  refine z_al0 eX1_doubtful_10 ?_
  refine z_al2 eX1_doubtful_11 ?_
  refine z_ki eX1_doubtful_12 ?_
  refine z_kj eX1_doubtful_13 ?_
  refine zc_sv4 eX1_doubtful_14 lX1_37 tX1_letVote (by decide) (Nat.le_of_ble_eq_true rfl) ((x_lv (h 122) hb hst a sh hok t ht (nS (h 122)) 0 (fun _ => 0) 1 0 _ (by omega) ⟨H.xf hg1, by rw [zup_off (by decide), zup_off (by decide)], by rw [zup_ne (by decide), zup_at], fun j hj => by rw [zup_off (by omega), zup_off (by omega)]; exact (hsh j hj).1⟩ (fun j hj => by omega) (by rw [zup_at]; rfl) (by omega)).mono (show 4 + nS (h 122) ≤ 24 by omega)) ?_
  rintro g2 ⟨s4, hx2, -, Hx2⟩
  have hg2 := hg1.tr hx2
  rw [Nat.zero_add] at s4
  refine z_al0 eX1_doubtful_17 ?_
  refine z_al0 eX1_doubtful_18 ?_
  refine z_gj eX1_doubtful_19 fX1_34 zs63 ?_
  rw [s4]
  refine z_kj eX1_doubtful_22 ?_
  refine z_al0 eX1_doubtful_25 ?_
  refine z_ga eX1_doubtful_26 fX1_22 zs63 (t := 4) rfl ?_
  refine zc_vi0 eX1_doubtful_29 lX1_43 tX5_votersIn zs4 (by decide) (Nat.le_of_ble_eq_true rfl) (x_votersIn g2 Hx2.1) ?_
  rw [Hx2.2.1]
  rintro _ _ ⟨rfl, rfl⟩ -
  rw [show allV (h 122) = (((allV (h 122)).toNat : Nat) : Int) by omega]
  refine zc_sj2 eX1_doubtful_32 lX1_49 tX1_power (by decide) (Nat.le_of_ble_eq_true rfl) (x_power _ 16 (allV (h 122)).toNat (Nat.le_refl _) (by omega)) ?_
  rintro _ _ ⟨rfl, rfl⟩ -
  refine zc_vv2 eX1_doubtful_35 lX1_53 tX1_tell zs63 (by decide) (Nat.le_of_ble_eq_true rfl) (x_tell _ (dF (h 122) a sh (nS (h 122)) 0 (fun _ => 0) 1) (16 ^ (allV (h 122)).toNat) (by have := dF_b (a := a) hok (nS (h 122)) 0 (fun _ => 0) 1 (by omega); rw [hrs, Nat.one_mul] at this; exact this) (Nat.pow_pos (by omega)) (by rw [← hrs]; omega)) ?_
  rintro _ rfl
  refine ze_v eX1_doubtful_38 rfl ?_
  refine ⟨by rw [zup_ne (by decide), zup_at]; rfl, by rw [zup_at]; rfl, zEx.up (zEx.up (hg2.1.wk (by simp)) (Or.inr (show 9 ∈ [9] by decide))) (Or.inr (show 9 ∈ [9] by decide)), fun c hc => by rw [zup_off (by omega), zup_off (by omega)]; exact hg2.2.1 c hc, by rw [zup_off (by decide), zup_off (by decide)]; exact hg2.2.2⟩
theorem x_doubt (h : zHp) (H : rHR h) (HT : rTray h) (t a : Int) : zCi mX11_doubt 26 [zA 0, zI t, zI a] h (fun v h' => pXL [9] ((qC (cDbt h (h 122) t a)).1 = 1) h (qC (cDbt h (h 122) t a)) (fun g => g 63 5 = frT (dO h (h 122) t a) (16 ^ (allV (h 122)).toNat) ∧ g 63 6 = frB (dO h (h 122) t a) (16 ^ (allV (h 122)).toNat)) v h') := by
  refine z_enter [zA 0, zI t, zI a, zU] (by decide +kernel) (Nat.le_of_ble_eq_true rfl) rfl (fun hra hrg => ?_)
  obtain ⟨⟨hb, hst, e0, e1, e7, ek, es, eo, hp⟩, hru⟩ := id H
  have hN := nN_eq hb
  have hS := nS_eq hb
  have hN8 := nN_le hb
  have hS20 := nS_le hb
  have hb2 := hb.2.2.1
  refine z_il1 eX11_doubt_0 ?_
  refine zc_si1 eX11_doubt_1 lX11_130 tX11_isTray (by decide) (Nat.le_of_ble_eq_true rfl) (x_isTray _ _) ?_
  rintro _ _ ⟨rfl, rfl⟩ -
  refine z_ine eX11_doubt_4 rfl (fun c4 => ?_) (fun c4 => ?_)
  · have z4 := iteT c4
    refine z_al0 eX11_doubt_13 ?_
    refine z_il2 eX11_doubt_14 ?_
    refine zc_vi1 eX11_doubt_15 lX11_224 tX11_isName zs0 (by decide) (Nat.le_of_ble_eq_true rfl) (x_isName _ H _) ?_
    rintro _ _ ⟨rfl, rfl⟩ -
    refine z_ine eX11_doubt_18 rfl (fun c18 => ?_) (fun c18 => ?_)
    · have z18 := iteT c18
      obtain ⟨t, rfl⟩ := Int.eq_ofNat_of_zero_le z4.1
      have ht : t < 4 := by omega
      have HTt := HT t ht
      have hn0 := HTt.1
      have h1 := HTt.2.2.1
      refine z_al0 eX11_doubt_27 ?_
      refine z_ga eX11_doubt_28 fX11_11 zs0 (t := 1) rfl ?_
      refine z_il1 eX11_doubt_31 ?_
      refine zr_aN eX11_doubt_32 zs1 (Or.inl rfl) (j := t) (by omega) (by omega) (t := (67 + 2 * t)) (zTr1 ht) ?_
      refine z_as3 eX11_doubt_33 zn0 ?_
      refine z_al3 eX11_doubt_34 ?_
      refine z_gi eX11_doubt_35 fX11_161 (zTr2 ht) ?_
      refine z_ine eX11_doubt_38 rfl (fun c38 => ?_) (fun c38 => ?_)
      · have hnn : 0 ≤ h 119 t := by
          by_cases z : 0 ≤ h 119 t
          · exact z
          · rw [if_neg z] at h1
            exact absurd h1 c38
        obtain ⟨T1, T2, T3⟩ := HTt.2.2.2 hnn
        refine z_al3 eX11_doubt_47 ?_
        refine z_ki eX11_doubt_48 ?_
        refine z_al0 eX11_doubt_49 ?_
        refine z_ga eX11_doubt_50 fX11_25 zs0 (t := 4) rfl ?_
        refine z_gi eX11_doubt_53 fX11_123 zs4 ?_
        rw [show h 4 7 = ((nS (h 122) : Nat) : Int) by omega]
        refine zc_vi2 eX11_doubt_56 lX11_168 tX10_has (zTr2 ht) (by decide) (Nat.le_of_ble_eq_true rfl) (x_has _ t ht (by omega) _ _) ?_
        rintro _ _ ⟨rfl, rfl⟩ -
        refine z_ine eX11_doubt_59 rfl (fun c59 => ?_) (fun c59 => ?_)
        · have z59 := iteT c59
          refine z_al3 eX11_doubt_68 ?_
          refine z_al0 eX11_doubt_69 ?_
          refine z_ga eX11_doubt_70 fX11_25 zs0 (t := 4) rfl ?_
          refine z_gi eX11_doubt_73 fX11_123 zs4 ?_
          refine z_ki eX11_doubt_76 ?_
          rw [show h 4 7 = ((nS (h 122) : Nat) : Int) by omega]
          have ewi : wiN (h (68 + 2 * t)) (nS (h 122)) = wiN (nums h t) (nS (h 122)) := wiN_cg _ (fun k hk => T3 k (by omega))
          refine zc_vi2 eX11_doubt_78 lX11_348 tX10_within (zTr2 ht) (by decide) (Nat.le_of_ble_eq_true rfl) (x_within h t ht (nS (h 122)) hS20 (by omega)) ?_
          rintro _ _ ⟨rfl, rfl⟩ -
          rw [ewi]
          refine z_ine eX11_doubt_81 rfl (fun c81 => ?_) (fun c81 => ?_)
          · have z81 := iteT c81
            refine z_al0 eX11_doubt_90 ?_
            refine z_ga eX11_doubt_91 fX11_25 zs0 (t := 4) rfl ?_
            refine zc_vi0 eX11_doubt_94 lX11_218 tX5_votersIn zs4 (by decide) (Nat.le_of_ble_eq_true rfl) (x_votersIn _ H) ?_
            rintro _ _ ⟨rfl, rfl⟩ -
            refine z_ki eX11_doubt_97 ?_
            refine z_cle eX11_doubt_99 rfl (fun c99 => ?_) (fun c99 => ?_)
            · have hshj : ∀ j : Nat, j < nS (h 122) → h (68 + 2 * t) j = ((shN h t j : Nat) : Int) ∧ shN h t j ≤ 16 := fun j hj => by
                have q := wiN_all z81 j hj
                have q2 := T3 j (by omega)
                unfold shN nums
                unfold nums at q
                omega
              refine z_al0 eX11_doubt_109 ?_
              refine z_ga eX11_doubt_110 fX11_95 zs0 (t := 63) rfl ?_
              refine z_il2 eX11_doubt_113 ?_
              refine z_al3 eX11_doubt_114 ?_
              refine zc_vv2 eX11_doubt_115 lX11_351 tX1_doubtful zs63 (by decide) (Nat.le_of_ble_eq_true rfl) (x_doubtful h H a t ht (shN h t) (by omega) hshj) ?_
              rintro g ⟨f5, f6, fx, f117, f0⟩
              refine z_al0 eX11_doubt_118 ?_
              refine zc_vi0 eX11_doubt_119 lX11_141 tX11_agree zs0 (by decide) (Nat.le_of_ble_eq_true rfl) (x_agree _) ?_
              rintro _ _ ⟨rfl, rfl⟩ -
              refine ze_z eX11_doubt_122 rfl (by first | exact Or.inl rfl | exact Or.inr rfl) ?_
              have ec : cDbt h (h 122) t a = 0 := by unfold cDbt; rw [Int.toNat_natCast, if_pos z4, if_pos z18, if_neg (by omega), if_neg (by omega), if_pos z81, if_neg (by omega)]
              rw [qC_0 ec]
              refine ⟨rfl, zup_at _ _ _ _, fun b hb2 => (zup_off (by omega)).trans (f117 b hb2), fun _ => ⟨fx.up (Or.inl rfl), ?_, ?_⟩, fun z => absurd rfl z⟩
              · rw [zup_off (by decide)]; exact f5
              · rw [zup_off (by decide)]; exact f6
            · refine z_al0 eX11_doubt_102 ?_
              refine z_ki eX11_doubt_103 ?_
              refine zc_vi1 eX11_doubt_105 lX11_134 tX11_deny zs0 (by decide) (Nat.le_of_ble_eq_true rfl) (x_deny _ _) ?_
              rintro _ _ ⟨rfl, rfl⟩ -
              refine ze_z eX11_doubt_108 rfl (by first | exact Or.inl rfl | exact Or.inr rfl) ?_
              have ec : cDbt h (h 122) t a = 7 := by unfold cDbt; rw [Int.toNat_natCast, if_pos z4, if_pos z18, if_neg (by omega), if_neg (by omega), if_pos z81, if_pos (by omega)]
              have eq : qC (cDbt h (h 122) t a) = (0, 7) := by rw [ec]; rfl
              exact pXL_no zXf.rf eq (by rw [eq]; decide)
          · have z81 := iteF c81
            refine z_al0 eX11_doubt_84 ?_
            refine z_ki eX11_doubt_85 ?_
            refine zc_vi1 eX11_doubt_86 lX11_134 tX11_deny zs0 (by decide) (Nat.le_of_ble_eq_true rfl) (x_deny _ _) ?_
            rintro _ _ ⟨rfl, rfl⟩ -
            refine ze_z eX11_doubt_89 rfl (by first | exact Or.inl rfl | exact Or.inr rfl) ?_
            have ec : cDbt h (h 122) t a = 5 := by unfold cDbt; rw [Int.toNat_natCast, if_pos z4, if_pos z18, if_neg (by omega), if_neg (by omega), if_neg z81]
            have eq : qC (cDbt h (h 122) t a) = (0, 5) := by rw [ec]; rfl
            exact pXL_no zXf.rf eq (by rw [eq]; decide)
        · have z59 := iteF c59
          refine z_al0 eX11_doubt_62 ?_
          refine z_ki eX11_doubt_63 ?_
          refine zc_vi1 eX11_doubt_64 lX11_134 tX11_deny zs0 (by decide) (Nat.le_of_ble_eq_true rfl) (x_deny _ _) ?_
          rintro _ _ ⟨rfl, rfl⟩ -
          refine ze_z eX11_doubt_67 rfl (by first | exact Or.inl rfl | exact Or.inr rfl) ?_
          have ec : cDbt h (h 122) t a = 4 := by unfold cDbt; rw [Int.toNat_natCast, if_pos z4, if_pos z18, if_neg (by omega), if_pos (by omega)]
          have eq : qC (cDbt h (h 122) t a) = (0, 4) := by rw [ec]; rfl
          exact pXL_no zXf.rf eq (by rw [eq]; decide)
      · refine z_al0 eX11_doubt_41 ?_
        refine z_ki eX11_doubt_42 ?_
        refine zc_vi1 eX11_doubt_43 lX11_134 tX11_deny zs0 (by decide) (Nat.le_of_ble_eq_true rfl) (x_deny _ _) ?_
        rintro _ _ ⟨rfl, rfl⟩ -
        refine ze_z eX11_doubt_46 rfl (by first | exact Or.inl rfl | exact Or.inr rfl) ?_
        have hnn : h 119 t < 0 := by
          by_cases z : 0 ≤ h 119 t
          · rw [if_pos z] at h1; omega
          · omega
        have ec : cDbt h (h 122) t a = 3 := by unfold cDbt; rw [Int.toNat_natCast, if_pos z4, if_pos z18, if_pos hnn]
        have eq : qC (cDbt h (h 122) t a) = (0, 3) := by rw [ec]; rfl
        exact pXL_no zXf.rf eq (by rw [eq]; decide)
    · have z18 := iteF c18
      refine z_al0 eX11_doubt_21 ?_
      refine z_ki eX11_doubt_22 ?_
      refine zc_vi1 eX11_doubt_23 lX11_134 tX11_deny zs0 (by decide) (Nat.le_of_ble_eq_true rfl) (x_deny _ _) ?_
      rintro _ _ ⟨rfl, rfl⟩ -
      refine ze_z eX11_doubt_26 rfl (by first | exact Or.inl rfl | exact Or.inr rfl) ?_
      have ec : cDbt h (h 122) t a = 2 := by unfold cDbt; rw [if_pos z4, if_neg z18]
      have eq : qC (cDbt h (h 122) t a) = (0, 2) := by rw [ec]; rfl
      exact pXL_no zXf.rf eq (by rw [eq]; decide)
  · have z4 := iteF c4
    refine z_al0 eX11_doubt_7 ?_
    refine z_ki eX11_doubt_8 ?_
    refine zc_vi1 eX11_doubt_9 lX11_134 tX11_deny zs0 (by decide) (Nat.le_of_ble_eq_true rfl) (x_deny _ _) ?_
    rintro _ _ ⟨rfl, rfl⟩ -
    refine ze_z eX11_doubt_12 rfl (by first | exact Or.inl rfl | exact Or.inr rfl) ?_
    have ec : cDbt h (h 122) t a = 1 := by unfold cDbt; rw [if_neg z4]
    have eq : qC (cDbt h (h 122) t a) = (0, 1) := by rw [ec]; rfl
    exact pXL_no zXf.rf eq (by rw [eq]; decide)
theorem r_dbt_2 (g : zHp) (D : Nat → Int) (hb : dB D) (hgD : g 122 = D) (t : Nat) (ht : t < 4) (a al : Int) (hsz : ((nS D : Nat) : Int) ≤ g 119 t) (h60 : g 119 t ≤ 60) (Q : Int → zHp → Prop) (kE : ∀ g', zFr 140 g g' → (∀ j : Nat, j < nS D → g' 140 j = nums g t j) → zRW mX12_doubt 28 (0, 0) 166 [zA 117, zI t, zI a, zI al, zI (nS D : Nat)] [] 143 g' (zqi Q)) : ∀ (r k : Nat) (f : zHp), k + r = nS D → zFr 140 g f → (∀ j : Nat, j < k → f 140 j = nums g t j) → zRW mX12_doubt 28 (0, 0) 135 [zA 117, zI t, zI a, zI al, zI k] [] 143 f (zqi Q) := by
  have hS := nS_eq hb
  have hS20 := nS_le hb
  intro r
  induction r using Nat.strongRecOn with
  | ind r ih =>
    intro k f hk hfr hj
    have d1 : f 122 1 = (nS D : Int) := by rw [hfr 122 (by decide), hgD]; exact hS
    refine z_il4 eX12_doubt_135 ?_
    refine z_al0 eX12_doubt_137 ?_
    refine z_ga eX12_doubt_138 fX12_35 zs117 (t := 122) rfl ?_
    refine z_ki eX12_doubt_141 ?_
    refine zr_iN eX12_doubt_142 zs122 (j := 1) (by omega) (by omega) ?_
    refine z_cge eX12_doubt_143 rfl (fun c143 => ?_) (fun c143 => ?_)
    · have e : k = nS D := by omega
      subst e
      exact kE f hfr hj
    · refine z_al0 eX12_doubt_146 ?_
      refine z_ga eX12_doubt_147 fX12_92 zs117 (t := 140) rfl ?_
      refine z_il4 eX12_doubt_150 ?_
      refine z_al0 eX12_doubt_152 ?_
      refine z_il1 eX12_doubt_153 ?_
      refine z_il4 eX12_doubt_154 ?_
      refine zc_vj2 eX12_doubt_156 lX12_334 tX12_numberOf zs117 (by decide) (Nat.le_of_ble_eq_true rfl) (r_numberOf f t k ht (by omega)) ?_
      rintro _ _ ⟨rfl, rfl⟩ -
      rw [show nums f t k = nums g t k by unfold nums; rw [hfr 120 (by decide)]]
      refine zs_lN eX12_doubt_159 zs140 (j := k) (by omega) (by omega) ?_
      refine z_incN4 eX12_doubt_160 zn0 (by omega) (by omega) ?_
      refine z_goto eX12_doubt_163 rfl ?_
      refine ih (r - 1) (by omega) (k + 1) _ (by omega) (hfr.up _ _) (fun j hj2 => ?_)
      by_cases e : j = k
      · subst e; exact zup_at _ _ _ _
      · rw [zup_ne (by omega)]; exact hj j (by omega)
theorem r_dbt_1 (h g : zHp) (hg : zup (zup h 117 1 0) 117 0 0 = g) (ga : ∀ a : Nat, ¬ a = 117 → g a = h a) (hb : dB (g 122)) (hst : g 122 2 < ((2 ^ nN (g 122) : Nat) : Int)) (t : Nat) (ht : t < 4) (a : Int) (z15 : 0 ≤ (t : Int) ∧ (t : Int) < 4) (z29 : 0 ≤ a ∧ a < g 122 0) (hsz : ((nS (g 122) : Nat) : Int) ≤ h 119 t) (h60 : h 119 t ≤ 60) (hnn : 0 ≤ h 119 t) : ∀ (r k : Nat), k + r = nS (g 122) → wiN (nums h t) k = true → zRW mX12_doubt 28 (0, 0) 76 [zA 117, zI t, zI a, zI k, zU] [] 143 g (zqi (fun v h' => pML [9] ((qC (cDbt h (g 122) t a)).1 = 1) h (qC (cDbt h (g 122) t a)) (fun f => f 117 2 = frT (dO h (g 122) t a) (16 ^ (allV (g 122)).toNat) ∧ f 117 3 = frB (dO h (g 122) t a) (16 ^ (allV (g 122)).toNat)) v h')) := by
  have hN := nN_eq hb
  have hS := nS_eq hb
  have hN8 := nN_le hb
  have hS20 := nS_le hb
  have hb2 := hb.2.2.1
  have h0v := (vB_sum3960 hb (inOf_b hb)).1
  intro r
  induction r using Nat.strongRecOn with
  | ind r ih =>
    intro k hk hok
    refine z_il3 eX12_doubt_76 ?_
    refine z_al0 eX12_doubt_77 ?_
    refine z_ga eX12_doubt_78 fX12_35 zs117 (t := 122) rfl ?_
    refine z_ki eX12_doubt_81 ?_
    refine zr_iN eX12_doubt_82 zs122 (j := 1) (by omega) (by omega) ?_
    refine z_cge eX12_doubt_83 rfl (fun c83 => ?_) (fun c83 => ?_)
    · have e : k = nS (g 122) := by omega
      subst e
      refine z_al0 eX12_doubt_114 ?_
      refine zc_vi0 eX12_doubt_115 lX12_272 tX12_allIn zs117 (by decide) (Nat.le_of_ble_eq_true rfl) (r_allIn _ _ rfl hb) ?_
      rintro _ _ ⟨rfl, rfl⟩ -
      rw [show sumN (inOf (g 122)) (nS (g 122)) = allV (g 122) from rfl]
      refine z_is3 eX12_doubt_118 zn0 ?_
      refine z_il3 eX12_doubt_119 ?_
      refine z_ki eX12_doubt_120 ?_
      refine z_cle eX12_doubt_122 rfl (fun c122 => ?_) (fun c122 => ?_)
      · refine z_ki eX12_doubt_132 ?_
        refine z_is4 eX12_doubt_133 zn0 ?_
        have ec : cDbt h (g 122) t a = 0 := by unfold cDbt; rw [Int.toNat_natCast, if_pos z15, if_pos z29, if_neg (by omega), if_neg (by omega), if_pos hok, if_neg (by omega)]
        have hra12 := rst_all hb
        have h0v : 0 ≤ allV (g 122) := h0v
        have hrs : rst (g 122) (nS (g 122)) 0 = (allV (g 122)).toNat := by omega
        have hpw : 16 ^ rst (g 122) (nS (g 122)) 0 ≤ 281474976710656 := pw_b (Nat.le_refl 16) (by omega)
        have hshj : ∀ j : Nat, j < nS (g 122) → nums g t j = ((shN h t j : Nat) : Int) := fun j hj => by
          have q := wiN_all hok j hj
          unfold shN
          rw [show nums g t j = nums h t j by unfold nums; rw [ga 120 (by decide)]]
          omega
        have hok : okI (g 122) (shN h t) := okI_of hb (by omega) (fun j hj => by
          have q := wiN_all hok j hj
          unfold shN
          omega)
        refine r_dbt_2 g (g 122) hb rfl t ht a _ (by rw [ga 119 (by decide)]; exact hsz) (by rw [ga 119 (by decide)]; exact h60) _ (fun g2 hfr2 hw2 => ?_) (nS (g 122)) 0 g (Nat.zero_add _) zFr.rf (fun j hj => by omega)
        refine z_al0 eX12_doubt_166 ?_
        refine z_kj eX12_doubt_167 ?_
        refine z_pj eX12_doubt_168 pX12_441 zs117 ?_
        refine z_al0 eX12_doubt_171 ?_
        refine z_ki eX12_doubt_172 ?_
        refine z_kj eX12_doubt_173 ?_
        refine z_il2 eX12_doubt_174 ?_
        refine zc_vv3 eX12_doubt_175 lX12_453 tX12_doubtFrom zs117 (by decide) (Nat.le_of_ble_eq_true rfl) ((r_df (g 122) hb hst a (shN h t) hok (nS (g 122)) 0 (fun _ => 0) 1 0 _ (by omega) ⟨by rw [zup_off (by decide), hfr2 122 (by decide)], fun j hj => by rw [zup_off (by decide), hw2 j hj]; exact hshj j hj⟩ (fun j hj => by omega) (by rw [zup_at]; rfl) (by omega)).mono (show 7 + nS (g 122) ≤ 27 by omega)) ?_
        rintro g3 ⟨s4, hx3, -, HM3⟩
        have hm3 : zMf g g3 := ((zMf.rf.fr hfr2 (by decide) (fun _ => rfl)).up (by omega) (by omega) rfl).tr hx3
        rw [Nat.zero_add] at s4
        refine z_al0 eX12_doubt_178 ?_
        refine z_al0 eX12_doubt_179 ?_
        refine z_gj eX12_doubt_180 fX12_441 zs117 ?_
        rw [s4]
        refine z_kj eX12_doubt_183 ?_
        refine z_il3 eX12_doubt_186 ?_
        rw [show allV (g 122) = (((allV (g 122)).toNat : Nat) : Int) by omega]
        refine zc_sj2 eX12_doubt_187 lX12_447 tX12_power (by decide) (Nat.le_of_ble_eq_true rfl) (r_power _ 16 (allV (g 122)).toNat (Nat.le_refl _) (by omega)) ?_
        rintro _ _ ⟨rfl, rfl⟩ -
        refine zc_vv2 eX12_doubt_190 lX12_457 tX12_fraction zs117 (by decide) (Nat.le_of_ble_eq_true rfl) (r_frac _ (dF (g 122) a (shN h t) (nS (g 122)) 0 (fun _ => 0) 1) (16 ^ (allV (g 122)).toNat) (by have := dF_b (a := a) hok (nS (g 122)) 0 (fun _ => 0) 1 (by omega); rw [hrs, Nat.one_mul] at this; exact this) (Nat.pow_pos (by omega)) (by rw [← hrs]; omega)) ?_
        rintro _ rfl
        refine z_ki eX12_doubt_193 ?_
        refine ze_z eX12_doubt_194 rfl (by first | exact Or.inl rfl | exact Or.inr rfl) ?_
        rw [qC_0 ec]
        have r0 := pM0_f (q := ((0 : Int), (0 : Int))) hg hm3 rfl
        refine ⟨rfl, by rw [zup_ne (by decide), zup_ne (by decide)]; exact r0.2.1, fun b hb2 => by rw [zup_off (by omega), zup_off (by omega)]; exact r0.2.2.1 b hb2, fun _ => ⟨zEx.up (zEx.up (r0.2.2.2.wk (by simp)) (Or.inr (show 9 ∈ [9] by decide))) (Or.inr (show 9 ∈ [9] by decide)), ?_, ?_⟩, fun z => absurd rfl z⟩
        · rw [zup_ne (by decide), zup_at]; rfl
        · rw [zup_at]; rfl
      · refine z_al0 eX12_doubt_125 ?_
        refine z_ki eX12_doubt_126 ?_
        refine zc_vi1 eX12_doubt_128 lX12_113 tX12_no zs117 (by decide) (Nat.le_of_ble_eq_true rfl) (r_no _ _) ?_
        rintro _ _ ⟨rfl, rfl⟩ -
        refine ze_z eX12_doubt_131 rfl (by first | exact Or.inl rfl | exact Or.inr rfl) ?_
        have ec : cDbt h (g 122) t a = 7 := by unfold cDbt; rw [Int.toNat_natCast, if_pos z15, if_pos z29, if_neg (by omega), if_neg (by omega), if_pos hok, if_pos (by omega)]
        have eq : qC (cDbt h (g 122) t a) = (0, 7) := by rw [ec]; rfl
        exact pML_no hg zMf.rf eq (by rw [eq]; decide)
    · refine z_al0 eX12_doubt_86 ?_
      refine z_il1 eX12_doubt_87 ?_
      refine z_il3 eX12_doubt_88 ?_
      refine zc_vj2 eX12_doubt_89 lX12_334 tX12_numberOf zs117 (by decide) (Nat.le_of_ble_eq_true rfl) (r_numberOf g t k ht (by omega)) ?_
      rintro _ _ ⟨rfl, rfl⟩ -
      rw [show nums g t k = nums h t k by unfold nums; rw [ga 120 (by decide)]]
      refine z_kj eX12_doubt_92 ?_
      refine z_kj eX12_doubt_93 ?_
      refine zc_si3 eX12_doubt_96 lX12_133 tX12_isIn (by decide) (Nat.le_of_ble_eq_true rfl) (r_isIn _ _ _ _) ?_
      rintro _ _ ⟨rfl, rfl⟩ -
      refine z_ine eX12_doubt_99 rfl (fun c99 => ?_) (fun c99 => ?_)
      · have z99 := iteT c99
        refine z_incN3 eX12_doubt_108 zn0 (by omega) (by omega) ?_
        refine z_goto eX12_doubt_111 rfl ?_
        exact ih (r - 1) (by omega) (k + 1) (by omega) (by rw [wiN, hok, Bool.true_and]; exact decide_eq_true z99)
      · have z99 := iteF c99
        refine z_al0 eX12_doubt_102 ?_
        refine z_ki eX12_doubt_103 ?_
        refine zc_vi1 eX12_doubt_104 lX12_113 tX12_no zs117 (by decide) (Nat.le_of_ble_eq_true rfl) (r_no _ _) ?_
        rintro _ _ ⟨rfl, rfl⟩ -
        refine ze_z eX12_doubt_107 rfl (by first | exact Or.inl rfl | exact Or.inr rfl) ?_
        have ec : cDbt h (g 122) t a = 5 := by unfold cDbt; rw [Int.toNat_natCast, if_pos z15, if_pos z29, if_neg (by omega), if_neg (by omega), if_neg (wiN_no (show k < nS (g 122) by omega) z99)]
        have eq : qC (cDbt h (g 122) t a) = (0, 5) := by rw [ec]; rfl
        exact pML_no hg zMf.rf eq (by rw [eq]; decide)
theorem r_doubt (h : zHp) (D : Nat → Int) (hD : h 122 = D) (hb : dB D) (hst : D 2 < ((2 ^ nN D : Nat) : Int)) (h118 : ∀ t : Nat, t < 4 → h 119 t ≤ 60) (t a : Int) : zCi mX12_doubt 28 [zA 117, zI t, zI a] h (fun v h' => pML [9] ((qC (cDbt h D t a)).1 = 1) h (qC (cDbt h D t a)) (fun f => f 117 2 = frT (dO h D t a) (16 ^ (allV D).toNat) ∧ f 117 3 = frB (dO h D t a) (16 ^ (allV D).toNat)) v h') := by
  refine z_enter [zA 117, zI t, zI a, zU, zU] (by decide +kernel) (Nat.le_of_ble_eq_true rfl) rfl (fun hra hrg => ?_)
  refine z_al0 eX12_doubt_0 ?_
  refine z_ki eX12_doubt_1 ?_
  refine z_pi eX12_doubt_2 pX12_98 zs117 ?_
  refine z_al0 eX12_doubt_5 ?_
  refine z_ki eX12_doubt_6 ?_
  refine z_pi eX12_doubt_7 pX12_101 zs117 ?_
  generalize hg : zup (zup h 117 1 0) 117 0 0 = g
  obtain ⟨ga, gf, g0⟩ := m_g hg
  have gD : g 122 = D := (ga 122 (by decide)).trans hD
  subst gD
  have hN := nN_eq hb
  have hS := nS_eq hb
  have hN8 := nN_le hb
  have hS20 := nS_le hb
  have hb2 := hb.2.2.1
  refine z_al0 eX12_doubt_10 ?_
  refine z_il1 eX12_doubt_11 ?_
  refine zc_vi1 eX12_doubt_12 lX12_329 tX12_isTray zs117 (by decide) (Nat.le_of_ble_eq_true rfl) (r_isTray _ _) ?_
  rintro _ _ ⟨rfl, rfl⟩ -
  refine z_ine eX12_doubt_15 rfl (fun c15 => ?_) (fun c15 => ?_)
  · have z15 := iteT c15
    refine z_al0 eX12_doubt_24 ?_
    refine z_il2 eX12_doubt_25 ?_
    refine zc_vi1 eX12_doubt_26 lX12_278 tX12_isName zs117 (by decide) (Nat.le_of_ble_eq_true rfl) (r_isName _ _ rfl hb _) ?_
    rintro _ _ ⟨rfl, rfl⟩ -
    refine z_ine eX12_doubt_29 rfl (fun c29 => ?_) (fun c29 => ?_)
    · have z29 := iteT c29
      obtain ⟨t, rfl⟩ := Int.eq_ofNat_of_zero_le z15.1
      have ht : t < 4 := by omega
      have h6 := h118 t ht
      refine z_al0 eX12_doubt_38 ?_
      refine z_ga eX12_doubt_39 fX12_17 zs117 (t := 119) rfl ?_
      refine z_il1 eX12_doubt_42 ?_
      refine zr_iN eX12_doubt_43 zs119 (j := t) (by omega) (by omega) ?_
      rw [ga 119 (by decide)]
      refine z_ige eX12_doubt_44 rfl (fun c44 => ?_) (fun c44 => ?_)
      · refine z_al0 eX12_doubt_53 ?_
        refine z_ga eX12_doubt_54 fX12_17 zs117 (t := 119) rfl ?_
        refine z_il1 eX12_doubt_57 ?_
        refine zr_iN eX12_doubt_58 zs119 (j := t) (by omega) (by omega) ?_
        rw [ga 119 (by decide)]
        refine z_al0 eX12_doubt_59 ?_
        refine z_ga eX12_doubt_60 fX12_35 zs117 (t := 122) rfl ?_
        refine z_ki eX12_doubt_63 ?_
        refine zr_iN eX12_doubt_64 zs122 (j := 1) (by omega) (by omega) ?_
        refine z_cge eX12_doubt_65 rfl (fun c65 => ?_) (fun c65 => ?_)
        · refine z_ki eX12_doubt_74 ?_
          refine z_is3 eX12_doubt_75 zn0 ?_
          exact r_dbt_1 h g hg ga hb hst t ht a z15 z29 (by omega) h6 (by omega) _ 0 (Nat.zero_add _) rfl
        · refine z_al0 eX12_doubt_68 ?_
          refine z_ki eX12_doubt_69 ?_
          refine zc_vi1 eX12_doubt_70 lX12_113 tX12_no zs117 (by decide) (Nat.le_of_ble_eq_true rfl) (r_no _ _) ?_
          rintro _ _ ⟨rfl, rfl⟩ -
          refine ze_z eX12_doubt_73 rfl (by first | exact Or.inl rfl | exact Or.inr rfl) ?_
          have ec : cDbt h (g 122) t a = 4 := by unfold cDbt; rw [Int.toNat_natCast, if_pos z15, if_pos z29, if_neg (by omega), if_pos (by omega)]
          have eq : qC (cDbt h (g 122) t a) = (0, 4) := by rw [ec]; rfl
          exact pML_no hg zMf.rf eq (by rw [eq]; decide)
      · refine z_al0 eX12_doubt_47 ?_
        refine z_ki eX12_doubt_48 ?_
        refine zc_vi1 eX12_doubt_49 lX12_113 tX12_no zs117 (by decide) (Nat.le_of_ble_eq_true rfl) (r_no _ _) ?_
        rintro _ _ ⟨rfl, rfl⟩ -
        refine ze_z eX12_doubt_52 rfl (by first | exact Or.inl rfl | exact Or.inr rfl) ?_
        have ec : cDbt h (g 122) t a = 3 := by unfold cDbt; rw [Int.toNat_natCast, if_pos z15, if_pos z29, if_pos (by omega)]
        have eq : qC (cDbt h (g 122) t a) = (0, 3) := by rw [ec]; rfl
        exact pML_no hg zMf.rf eq (by rw [eq]; decide)
    · have z29 := iteF c29
      refine z_al0 eX12_doubt_32 ?_
      refine z_ki eX12_doubt_33 ?_
      refine zc_vi1 eX12_doubt_34 lX12_113 tX12_no zs117 (by decide) (Nat.le_of_ble_eq_true rfl) (r_no _ _) ?_
      rintro _ _ ⟨rfl, rfl⟩ -
      refine ze_z eX12_doubt_37 rfl (by first | exact Or.inl rfl | exact Or.inr rfl) ?_
      have ec : cDbt h (g 122) t a = 2 := by unfold cDbt; rw [if_pos z15, if_neg z29]
      have eq : qC (cDbt h (g 122) t a) = (0, 2) := by rw [ec]; rfl
      exact pML_no hg zMf.rf eq (by rw [eq]; decide)
  · have z15 := iteF c15
    refine z_al0 eX12_doubt_18 ?_
    refine z_ki eX12_doubt_19 ?_
    refine zc_vi1 eX12_doubt_20 lX12_113 tX12_no zs117 (by decide) (Nat.le_of_ble_eq_true rfl) (r_no _ _) ?_
    rintro _ _ ⟨rfl, rfl⟩ -
    refine ze_z eX12_doubt_23 rfl (by first | exact Or.inl rfl | exact Or.inr rfl) ?_
    have ec : cDbt h (g 122) t a = 1 := by unfold cDbt; rw [if_neg z15]
    have eq : qC (cDbt h (g 122) t a) = (0, 1) := by rw [ec]; rfl
    exact pML_no hg zMf.rf eq (by rw [eq]; decide)
theorem rel_frac {h h1 h2 : zHp} (H : Rel h) {q : Int × Int} {T B v v' : Int} (hx : pXL [9] (q.1 = 1) h q (fun g => g 63 5 = T ∧ g 63 6 = B) v h1) (hm : pML [9] (q.1 = 1) h1 q (fun g => g 117 2 = T ∧ g 117 3 = B) v' h2) : rOut h v v' h2 := by
  obtain ⟨a1, a2, a3, a4, a5⟩ := hx
  obtain ⟨b1, b2, b3, b4, b5⟩ := hm
  by_cases c : q.1 = 1
  · have L := (a4 c).1.tr (b4 c).1
    refine ⟨by rw [← a1, ← b1], Rel.exL L (by rw [b3 0 (by omega), a2, b2]) H (by simp) (by simp) (by simp) (by simp) (by simp) (by simp) (by simp) (by simp) (fun _ => ?_), ex200 L (by simp)⟩
    unfold rFrac
    rw [b3 63 (by omega), (a4 c).2.1, (a4 c).2.2, (b4 c).2.1, (b4 c).2.2]
    exact ⟨rfl, rfl⟩
  · exact H.tell2 ⟨a1, a2, a3, a5 c⟩ ⟨b1, b2, b3, b5 c⟩
