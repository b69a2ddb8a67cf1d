-- people: the class's search (written by wip/tools/specV2.py)
def PkX (D : Nat → Int) (a wn kd most m : Int) (s : Nat) (p : Nat → Int) (k : Nat) (q : Nat → Int) : Prop := uR D a wn kd most q ∧ (totR q (nS D) < m ∨ (totR q (nS D) = m ∧ (ltx s q p ∨ (agr s q p ∧ rk (q s) < k))))
def P0X (D : Nat → Int) (a wn kd most m : Int) (s : Nat) (p : Nat → Int) (q : Nat → Int) : Prop := uR D a wn kd most q ∧ (totR q (nS D) < m ∨ (totR q (nS D) = m ∧ ltx s q p))
def P1X (D : Nat → Int) (a wn kd most m : Int) (s : Nat) (p : Nat → Int) (q : Nat → Int) : Prop := uR D a wn kd most q ∧ (totR q (nS D) < m ∨ (totR q (nS D) = m ∧ (ltx s q p ∨ agr s q p)))
theorem P0X_fu {D : Nat → Int} {a wn kd most m : Int} {s : Nat} {p : Nat → Int} {y : Int} (q : Nat → Int) : P0X D a wn kd most m (s + 1) (fu p s y) q ↔ PkX D a wn kd most m s p (rk y) q := by
  unfold P0X PkX
  rw [ltx_s, ltx_fu, agr_fu, fu_at]
theorem P1X_fu {D : Nat → Int} {a wn kd most m : Int} {s : Nat} {p : Nat → Int} {y : Int} (q : Nat → Int) : PkX D a wn kd most m s p (rk y + 1) q ↔ P1X D a wn kd most m (s + 1) (fu p s y) q := by
  have e := P1M_fu (D := D) (a := a) (wn := wn) (kd := kd) (most := most) (s := s) (p := p) (y := y) q
  unfold P1M PkM at e
  unfold P1X PkX
  constructor
  · rintro ⟨u, h | ⟨h1, h2⟩⟩
    · exact ⟨u, Or.inl h⟩
    · exact ⟨u, Or.inr ⟨h1, (e.mp ⟨u, h2⟩).2⟩⟩
  · rintro ⟨u, h | ⟨h1, h2⟩⟩
    · exact ⟨u, Or.inl h⟩
    · exact ⟨u, Or.inr ⟨h1, (e.mpr ⟨u, h2⟩).2⟩⟩
theorem rk_p {k : Nat} (h : 1 ≤ k) : rk (k : Int) = 2 * k - 1 := by unfold rk; split <;> omega
theorem rk_n (k : Nat) : rk (-(k : Int)) = 2 * k := by unfold rk; split <;> omega
theorem isB_le {D : Nat → Int} {ch bm bc : Int} {a wn kd most m : Int} {s : Nat} {p br : Nat → Int} (H : isB D (nS D) ch (P0X D a wn kd most m s p) bm bc br) : bm = -1 ∨ (0 ≤ bm ∧ bm ≤ m) := by
  rcases H with h | ⟨h1, b, h2, h3, h4, -⟩
  · exact Or.inl h.1
  · refine Or.inr ⟨h1, ?_⟩
    rcases h2.2 with z | z <;> omega
theorem skipX {D : Nat → Int} (hb : dB D) {a wn kd most ch bm bc m : Int} {s : Nat} {p br : Nat → Int} (hs : s ≤ nS D) (H : isB D (nS D) ch (P0X D a wn kd most m s p) bm bc br) (hf : ch = 0 → bm = -1 ∨ bm = m) (h0 : ¬ bm = -1) (hc : bc ≤ cstR D p s) : isB D (nS D) ch (P1X D a wn kd most m s p) bm bc br := by
  have hl := isB_le H
  refine isB_skip H (fun q hq => ⟨hq.1, hq.2.imp id (fun y => ⟨y.1, Or.inl y.2⟩)⟩) (fun q hq => ?_)
  rcases hq.2 with z | ⟨z1, z2⟩
  · exact Or.inl ⟨hq.1, Or.inl z⟩
  · rcases z2 with z | z
    · exact Or.inl ⟨hq.1, Or.inr ⟨z1, z⟩⟩
    · have h2 : cstR D p s ≤ cstR D q (nS D) := by rw [← cstR_cg z]; exact cstR_mono hb q (Nat.le_refl _) hs
      refine Or.inr ⟨by omega, ?_, fun b hb2 e1 e2 => ?_⟩
      · unfold kle
        rw [z1]
        by_cases e : ch = 0
        · have := hf e
          exact Or.inl ⟨e, by omega⟩
        · exact Or.inr ⟨e, by omega⟩
      · rcases hb2.2 with y | y
        · omega
        · exact ltx_up hs y.2 z
theorem tot_ext {q p : Nat → Int} {s n : Nat} (hs : s ≤ n) (ha : agr s q p) (ht : totR q n = totR p s) (hz : ∀ j, s ≤ j → p j = 0) : agr n q p := by
  intro i hi
  by_cases e : i < s
  · exact ha i e
  · have h1 := totR_mono q (show i + 1 ≤ n by omega)
    have h2 := totR_mono q (show s ≤ i by omega)
    rw [totR_s] at h1
    rw [totR_cg ha] at h2
    have h3 := absI_b (q i)
    rw [hz i (by omega)]
    omega
theorem tot_z {p : Nat → Int} {s : Nat} (hz : ∀ j, s ≤ j → p j = 0) : ∀ n, s ≤ n → totR p n = totR p s := by
  intro n
  induction n with
  | zero => intro h; rw [show s = 0 by omega]
  | succ n ih =>
    intro h
    by_cases e : s = n + 1
    · rw [e]
    · rw [totR_s, ih (by omega), hz n (by omega)]; show _ + (0 : Int) = _; omega
theorem cst_z {D p : Nat → Int} {s : Nat} (hz : ∀ j, s ≤ j → p j = 0) : ∀ n, s ≤ n → cstR D p n = cstR D p s := by
  intro n
  induction n with
  | zero => intro h; rw [show s = 0 by omega]
  | succ n ih =>
    intro h
    by_cases e : s = n + 1
    · rw [e]
    · rw [cstR_s, ih (by omega), hz n (by omega), show absI 0 = 0 from rfl, Int.zero_mul, Int.add_zero]
/-- the class's search stands so: x is the sort that may be in change -/
def sP (D : Nat → Int) (a wn kd m ch : Int) (x : Nat) (p : Nat → Int) (g : zHp) : Prop := rHR g ∧ g 122 = D ∧ (g 54 2 = a ∧ g 54 3 = wn ∧ g 54 4 = kd ∧ g 54 5 = m) ∧ (∀ j : Nat, j < 12 → ¬ j = x → g 55 j = p j) ∧ (∀ j : Nat, j < nS D → ¬ j = x → g 56 j = D (20 + j) + p j) ∧ (ch = 0 → g 54 8 = -1 ∨ g 54 8 = m)
theorem sP.mv {D : Nat → Int} {a wn kd m ch : Int} {s : Nat} {p : Nat → Int} {g : zHp} (H : sP D a wn kd m ch s p g) (y : Int) : sP D a wn kd m ch 99 (fu p s y) (zup (zup g 55 s y) 56 s (D (20 + s) + y)) ∧ zXf g (zup (zup g 55 s y) 56 s (D (20 + s) + y)) := by
  obtain ⟨h1, h2, h3, h4, h5, h6⟩ := H
  have hx : zXf g (zup (zup g 55 s y) 56 s (D (20 + s) + y)) := (zXf.rf.up (by omega) (by omega) rfl).up (by omega) (by omega) rfl
  refine ⟨⟨h1.xf hx, (hx.2.1 122 (by omega)).trans h2, by rw [zup_off (by decide), zup_off (by decide)]; exact h3, fun j hj _ => ?_, fun j hj _ => ?_, by rw [zup_off (by decide), zup_off (by decide)]; exact h6⟩, hx⟩
  · rw [zup_off (by decide)]
    unfold fu
    by_cases e : j = s
    · subst e; rw [if_pos rfl, zup_at]
    · rw [if_neg e, zup_ne (by omega)]; exact h4 j hj e
  · unfold fu
    by_cases e : j = s
    · subst e; rw [if_pos rfl, zup_at]
    · rw [if_neg e, zup_ne (by omega), zup_off (by decide)]; exact h5 j hj e
theorem x_tryMove (h : zHp) (s : Nat) (hs : s < 12) (y z : Int) (hz : h 9 s = z) (hr : -2147483648 ≤ z + y ∧ z + y < 2147483648) : zCv mX8_tryMove 0 [zA 54, zI s, zI y] h (fun h' => zup (zup h 55 s y) 56 s (z + y) = h') := by
  refine z_enter [zA 54, zI s, zI y] (by decide +kernel) (Nat.le_of_ble_eq_true rfl) rfl (fun hra hrg => ?_)
  refine z_al0 eX8_tryMove_0 ?_
  refine z_ga eX8_tryMove_1 fX8_9 zs54 (t := 55) rfl ?_
  refine z_il1 eX8_tryMove_4 ?_
  refine z_il2 eX8_tryMove_5 ?_
  refine zs_iN eX8_tryMove_6 zs55 (j := s) (by omega) (by omega) ?_
  refine z_al0 eX8_tryMove_7 ?_
  refine z_ga eX8_tryMove_8 fX8_15 zs54 (t := 56) rfl ?_
  refine z_il1 eX8_tryMove_11 ?_
  refine z_al0 eX8_tryMove_12 ?_
  refine z_ga eX8_tryMove_13 fX8_21 zs54 (t := 4) rfl ?_
  refine z_ga eX8_tryMove_16 fX8_65 zs4 (t := 9) rfl ?_
  refine z_il1 eX8_tryMove_19 ?_
  refine zr_iN eX8_tryMove_20 zs9 (j := s) (by omega) (by omega) ?_
  rw [zup_off (by decide), hz]
  refine z_il2 eX8_tryMove_21 ?_
  refine z_iaddN eX8_tryMove_22 (by omega) (by omega) ?_
  refine zs_iN eX8_tryMove_23 zs56 (j := s) (by omega) (by omega) ?_
  refine ze_v eX8_tryMove_24 rfl ?_
  rfl
theorem x_keepT (h : zHp) (c : Int) : zCv mX8_keepTrial 1 [zA 54, zI c] h (fun h' => zcp (zup (zup h 54 8 (h 54 5)) 54 9 c) 55 0 57 0 12 = h') := by
  refine z_enter [zA 54, zI c] (by decide +kernel) (Nat.le_of_ble_eq_true rfl) rfl (fun hra hrg => ?_)
  refine z_al0 eX8_keepTrial_0 ?_
  refine z_al0 eX8_keepTrial_1 ?_
  refine z_gi eX8_keepTrial_2 fX8_98 zs54 ?_
  refine z_pi eX8_keepTrial_5 pX8_40 zs54 ?_
  refine z_al0 eX8_keepTrial_8 ?_
  refine z_il1 eX8_keepTrial_9 ?_
  refine z_pi eX8_keepTrial_10 pX8_74 zs54 ?_
  refine z_al0 eX8_keepTrial_13 ?_
  refine z_ga eX8_keepTrial_14 fX8_9 zs54 (t := 55) rfl ?_
  refine z_ki eX8_keepTrial_17 ?_
  refine z_al0 eX8_keepTrial_18 ?_
  refine z_ga eX8_keepTrial_19 fX8_18 zs54 (t := 57) rfl ?_
  refine z_ki eX8_keepTrial_22 ?_
  refine z_ki eX8_keepTrial_23 ?_
  refine zy_i eX8_keepTrial_25 lX8_92 (Or.inl rfl) zs55 zs57 (by decide) (by decide) (by decide) (by decide) (by decide) (by decide) (Nat.le_of_ble_eq_true rfl) ?_
  refine ze_v eX8_keepTrial_28 rfl ?_
  rfl
theorem x_sp0 (D : Nat → Int) (hb : dB D) (hst : D 2 < ((2 ^ nN D : Nat) : Int)) (h12 : nS D ≤ 12) (a wn kd most m ch : Int) (hwn : wn = 0 ∨ wn = 1) (hkd : kd = 4 ∨ kd = 8 ∨ kd = 12) (hmo : 0 ≤ m ∧ m ≤ most ∧ most ≤ 5) (s : Nat) (p : Nat → Int) (h : zHp) (hs : s + 0 = nS D) (Hm : sP D a wn kd m ch 99 p h) (hz : ∀ j : Nat, s ≤ j → p j = 0) (hf : pF D kd s p) (ht : totR p s ≤ m) (HB : isB D (nS D) ch (P0X D a wn kd most m s p) (h 54 8) (h 54 9) (h 57)) : zCv mX8_spread (4 + 0) [zA 54, zI s, zI (m - totR p s), zI (cstR D p s)] h (fun h' => sP D a wn kd m ch 99 p h' ∧ isB D (nS D) ch (P1X D a wn kd most m s p) (h' 54 8) (h' 54 9) (h' 57) ∧ zXf h h') := by
  refine z_enter [zA 54, zI s, zI (m - totR p s), zI (cstR D p s), zU, zU] (by decide +kernel) (Nat.le_of_ble_eq_true rfl) rfl (fun hra hrg => ?_)
  obtain ⟨Hr, h122, ⟨m2, m3, m4, m5⟩, m6, m7, m8⟩ := id Hm
  obtain ⟨⟨-, -, e0, e1, e7, ek, es, eo, hp⟩, hru⟩ : hallR h 4 D (h 123) ∧ ruleR h 24 D := by rw [← h122]; exact Hr
  have hS := nS_eq hb
  have hb2 := hb.2.2.1
  have htn := totR_nn p s
  have hle := isB_le HB
  refine z_al0 eX8_spread_0 ?_
  refine z_gi eX8_spread_1 fX8_40 zs54 ?_
  refine z_ki eX8_spread_4 ?_
  refine z_ceq eX8_spread_5 rfl (fun c5 => ?_) (fun c5 => ?_)
  · refine z_il2 eX8_spread_17 ?_
    refine z_ine eX8_spread_18 rfl (fun c18 => ?_) (fun c18 => ?_)
    · refine z_il1 eX8_spread_64 ?_
      refine z_al0 eX8_spread_65 ?_
      refine z_ga eX8_spread_66 fX8_21 zs54 (t := 4) rfl ?_
      refine z_gi eX8_spread_69 fX8_109 zs4 ?_
      refine z_cge eX8_spread_72 rfl (fun c72 => ?_) (fun c72 => ?_)
      · refine ze_v eX8_spread_81 rfl ?_
        refine ⟨Hm, isB_skip HB (fun q hq => ⟨hq.1, hq.2.imp id (fun y => ⟨y.1, Or.inl y.2⟩)⟩) (fun q hq => Or.inl ⟨hq.1, ?_⟩), zXf.rf⟩
        rcases hq.2 with z | ⟨z1, z2⟩
        · exact Or.inl z
        · refine Or.inr ⟨z1, ?_⟩
          rcases z2 with z | z
          · exact z
          · exfalso
            have := totR_cg z
            rw [show s = nS D by omega] at *
            omega
      · exfalso; omega
    · have hfa : ∀ j : Nat, j < nS D → fe1 D kd j (p j) := fun j hj => by
        by_cases e : j < s
        · exact hf j e
        · rw [hz j (by omega)]; exact ⟨fun z => absurd z (by omega), fun z => absurd z (by omega)⟩
      have hvb := wR_b hb hfa
      have etot := tot_z hz (nS D) (by omega)
      have ecst := cst_z (D := D) hz (nS D) (by omega)
      have hagn : ∀ q, agr s q p → totR q (nS D) = m → agr (nS D) q p := fun q h1 h2 => tot_ext (by omega) h1 (by omega) hz
      refine z_al0 eX8_spread_21 ?_
      refine z_ga eX8_spread_22 fX8_25 zs54 (t := 50) rfl ?_
      refine z_al0 eX8_spread_25 ?_
      refine z_ga eX8_spread_26 fX8_21 zs54 (t := 4) rfl ?_
      refine z_gi eX8_spread_29 fX8_49 zs4 ?_
      refine z_al0 eX8_spread_32 ?_
      refine z_ga eX8_spread_33 fX8_15 zs54 (t := 56) rfl ?_
      rw [show h 4 1 = (((D 2).toNat : Nat) : Int) from e1.trans (stN hb)]
      refine zc_vi2 eX8_spread_36 lX8_68 tX2_winnerOf zs50 (by omega) (Nat.le_of_ble_eq_true rfl) (x_winWD Hr h122 56 rfl (by decide) (wR D p) (fun j hj => m7 j hj (by omega)) hvb _ (stL hb hst)) ?_
      rintro _ g ⟨rfl, hfr⟩ -
      have hg : zXf h g := zXf.rf.fr hfr (by decide) (fun _ => rfl)
      have Hmg : sP D a wn kd m ch 99 p g := ⟨Hr.xf hg, (hfr 122 (by decide)).trans h122, by rw [hfr 54 (by decide)]; exact ⟨m2, m3, m4, m5⟩, fun j j1 j2 => by rw [hfr 55 (by decide)]; exact m6 j j1 j2, fun j j1 j2 => by rw [hfr 56 (by decide)]; exact m7 j j1 j2, by rw [hfr 54 (by decide)]; exact m8⟩
      refine z_al0 eX8_spread_39 ?_
      refine z_gi eX8_spread_40 fX8_29 zs54 ?_
      rw [hfr 54 (by decide), m2]
      refine z_cne eX8_spread_43 rfl (fun c43 => ?_) (fun c43 => ?_)
      · refine z_ki eX8_spread_50 ?_
        refine z_al0 eX8_spread_51 ?_
        refine z_gi eX8_spread_52 fX8_33 zs54 ?_
        rw [hfr 54 (by decide), m3]
        refine z_cne eX8_spread_55 rfl (fun c55 => ?_) (fun c55 => ?_)
        · refine ze_v eX8_spread_63 rfl ?_
          refine ⟨Hmg, ?_, hg⟩
          rw [hfr 54 (by decide), hfr 57 (by decide)]
          refine isB_skip HB (fun q hq => ⟨hq.1, hq.2.imp id (fun y => ⟨y.1, Or.inl y.2⟩)⟩) (fun q hq => Or.inl ⟨hq.1, ?_⟩)
          rcases hq.2 with z | ⟨z1, z2⟩
          · exact Or.inl z
          · refine Or.inr ⟨z1, ?_⟩
            rcases z2 with z | z
            · exact z
            · exfalso
              have y := (aimR_cg (hagn q z z1)).mp hq.1.2.2
              unfold aimR aimQ at y
              omega
        · refine z_al0 eX8_spread_58 ?_
          refine z_il3 eX8_spread_59 ?_
          refine zc_vv1 eX8_spread_60 lX8_105 tX8_keepTrial zs54 (by omega) (Nat.le_of_ble_eq_true rfl) (x_keepT _ _) ?_
          rintro _ rfl
          rw [show g 54 5 = m from Hmg.2.2.1.2.2.2]
          refine ze_v eX8_spread_63 rfl ?_
          have hk : zXf h (zcp (zup (zup g 54 8 m) 54 9 (cstR D p s)) 55 0 57 0 12) := ((hg.up (by omega) (by omega) rfl).up (by omega) (by omega) rfl).fr (fun c hc => zcp_off hc) (by decide) (fun _ => rfl)
          obtain ⟨n1, n2, ⟨n3, n4, n5, n6⟩, n7, n8, n9⟩ := Hmg
          refine ⟨⟨Hr.xf hk, (hk.2.1 122 (by omega)).trans h122, ?_, fun j j1 j2 => ?_, fun j j1 j2 => ?_, fun _ => Or.inr ?_⟩, ?_, hk⟩
          · rw [zcp_off (by decide), zup_ne (by decide), zup_ne (by decide), zup_ne (by decide), zup_ne (by decide), zup_ne (by decide), zup_ne (by decide), zup_ne (by decide), zup_ne (by decide)]
            exact ⟨n3, n4, n5, n6⟩
          · rw [zcp_off (by decide), zup_off (by decide), zup_off (by decide)]; exact n7 j j1 j2
          · rw [zcp_off (by decide), zup_off (by decide), zup_off (by decide)]; exact n8 j j1 j2
          · rw [zcp_off (by decide), zup_ne (by decide), zup_at]
          · rw [zcp_off (show ¬ 54 = 57 by decide), zup_ne (show ¬ (54 = 54 ∧ 8 = 9) by decide), zup_at, zup_at]
            have em : m = totR p (nS D) := by omega
            rw [show isB D (nS D) ch (P1X D a wn kd most m s p) m (cstR D p s) (zcp (zup (zup g 54 8 m) 54 9 (cstR D p s)) 55 0 57 0 12 57) = isB D (nS D) ch (P1X D a wn kd most m s p) (totR p (nS D)) (cstR D p (nS D)) (zcp (zup (zup g 54 8 m) 54 9 (cstR D p s)) 55 0 57 0 12 57) by rw [← em, ecst]]
            refine isB_cg (br := p) (fun i hi => ?_) (isB_take HB (p := p) ⟨⟨hfa, by omega, ?_⟩, Or.inr ⟨em.symm, Or.inr (fun i hi => rfl)⟩⟩ (fun q hq => ?_) ?_)
            · rw [zcp_on (by omega), zup_off (by decide), zup_off (by decide)]; exact n7 i (by omega) (by omega)
            · unfold aimR aimQ; omega
            · rcases hq.2 with z | ⟨z1, z2⟩
              · exact Or.inl ⟨hq.1, Or.inl z⟩
              · rcases z2 with z | z
                · exact Or.inl ⟨hq.1, Or.inr ⟨z1, z⟩⟩
                · exact Or.inr (fun i hi => (hagn q z z1 i hi).symm)
            · unfold klt
              rw [← em, ecst]
              by_cases e : ch = 0
              · have := m8 e
                omega
              · omega
      · refine z_ki eX8_spread_46 ?_
        refine z_goto eX8_spread_47 rfl ?_
        refine z_al0 eX8_spread_51 ?_
        refine z_gi eX8_spread_52 fX8_33 zs54 ?_
        rw [hfr 54 (by decide), m3]
        refine z_cne eX8_spread_55 rfl (fun c55 => ?_) (fun c55 => ?_)
        · refine ze_v eX8_spread_63 rfl ?_
          refine ⟨Hmg, ?_, hg⟩
          rw [hfr 54 (by decide), hfr 57 (by decide)]
          refine isB_skip HB (fun q hq => ⟨hq.1, hq.2.imp id (fun y => ⟨y.1, Or.inl y.2⟩)⟩) (fun q hq => Or.inl ⟨hq.1, ?_⟩)
          rcases hq.2 with z | ⟨z1, z2⟩
          · exact Or.inl z
          · refine Or.inr ⟨z1, ?_⟩
            rcases z2 with z | z
            · exact z
            · exfalso
              have y := (aimR_cg (hagn q z z1)).mp hq.1.2.2
              unfold aimR aimQ at y
              omega
        · refine z_al0 eX8_spread_58 ?_
          refine z_il3 eX8_spread_59 ?_
          refine zc_vv1 eX8_spread_60 lX8_105 tX8_keepTrial zs54 (by omega) (Nat.le_of_ble_eq_true rfl) (x_keepT _ _) ?_
          rintro _ rfl
          rw [show g 54 5 = m from Hmg.2.2.1.2.2.2]
          refine ze_v eX8_spread_63 rfl ?_
          have hk : zXf h (zcp (zup (zup g 54 8 m) 54 9 (cstR D p s)) 55 0 57 0 12) := ((hg.up (by omega) (by omega) rfl).up (by omega) (by omega) rfl).fr (fun c hc => zcp_off hc) (by decide) (fun _ => rfl)
          obtain ⟨n1, n2, ⟨n3, n4, n5, n6⟩, n7, n8, n9⟩ := Hmg
          refine ⟨⟨Hr.xf hk, (hk.2.1 122 (by omega)).trans h122, ?_, fun j j1 j2 => ?_, fun j j1 j2 => ?_, fun _ => Or.inr ?_⟩, ?_, hk⟩
          · rw [zcp_off (by decide), zup_ne (by decide), zup_ne (by decide), zup_ne (by decide), zup_ne (by decide), zup_ne (by decide), zup_ne (by decide), zup_ne (by decide), zup_ne (by decide)]
            exact ⟨n3, n4, n5, n6⟩
          · rw [zcp_off (by decide), zup_off (by decide), zup_off (by decide)]; exact n7 j j1 j2
          · rw [zcp_off (by decide), zup_off (by decide), zup_off (by decide)]; exact n8 j j1 j2
          · rw [zcp_off (by decide), zup_ne (by decide), zup_at]
          · rw [zcp_off (show ¬ 54 = 57 by decide), zup_ne (show ¬ (54 = 54 ∧ 8 = 9) by decide), zup_at, zup_at]
            have em : m = totR p (nS D) := by omega
            rw [show isB D (nS D) ch (P1X D a wn kd most m s p) m (cstR D p s) (zcp (zup (zup g 54 8 m) 54 9 (cstR D p s)) 55 0 57 0 12 57) = isB D (nS D) ch (P1X D a wn kd most m s p) (totR p (nS D)) (cstR D p (nS D)) (zcp (zup (zup g 54 8 m) 54 9 (cstR D p s)) 55 0 57 0 12 57) by rw [← em, ecst]]
            refine isB_cg (br := p) (fun i hi => ?_) (isB_take HB (p := p) ⟨⟨hfa, by omega, ?_⟩, Or.inr ⟨em.symm, Or.inr (fun i hi => rfl)⟩⟩ (fun q hq => ?_) ?_)
            · rw [zcp_on (by omega), zup_off (by decide), zup_off (by decide)]; exact n7 i (by omega) (by omega)
            · unfold aimR aimQ; omega
            · rcases hq.2 with z | ⟨z1, z2⟩
              · exact Or.inl ⟨hq.1, Or.inl z⟩
              · rcases z2 with z | z
                · exact Or.inl ⟨hq.1, Or.inr ⟨z1, z⟩⟩
                · exact Or.inr (fun i hi => (hagn q z z1 i hi).symm)
            · unfold klt
              rw [← em, ecst]
              by_cases e : ch = 0
              · have := m8 e
                omega
              · omega
  · refine z_il3 eX8_spread_8 ?_
    refine z_al0 eX8_spread_9 ?_
    refine z_gi eX8_spread_10 fX8_74 zs54 ?_
    refine z_clt eX8_spread_13 rfl (fun c13 => ?_) (fun c13 => ?_)
    · refine z_il2 eX8_spread_17 ?_
      refine z_ine eX8_spread_18 rfl (fun c18 => ?_) (fun c18 => ?_)
      · refine z_il1 eX8_spread_64 ?_
        refine z_al0 eX8_spread_65 ?_
        refine z_ga eX8_spread_66 fX8_21 zs54 (t := 4) rfl ?_
        refine z_gi eX8_spread_69 fX8_109 zs4 ?_
        refine z_cge eX8_spread_72 rfl (fun c72 => ?_) (fun c72 => ?_)
        · refine ze_v eX8_spread_81 rfl ?_
          refine ⟨Hm, isB_skip HB (fun q hq => ⟨hq.1, hq.2.imp id (fun y => ⟨y.1, Or.inl y.2⟩)⟩) (fun q hq => Or.inl ⟨hq.1, ?_⟩), zXf.rf⟩
          rcases hq.2 with z | ⟨z1, z2⟩
          · exact Or.inl z
          · refine Or.inr ⟨z1, ?_⟩
            rcases z2 with z | z
            · exact z
            · exfalso
              have := totR_cg z
              rw [show s = nS D by omega] at *
              omega
        · exfalso; omega
      · have hfa : ∀ j : Nat, j < nS D → fe1 D kd j (p j) := fun j hj => by
          by_cases e : j < s
          · exact hf j e
          · rw [hz j (by omega)]; exact ⟨fun z => absurd z (by omega), fun z => absurd z (by omega)⟩
        have hvb := wR_b hb hfa
        have etot := tot_z hz (nS D) (by omega)
        have ecst := cst_z (D := D) hz (nS D) (by omega)
        have hagn : ∀ q, agr s q p → totR q (nS D) = m → agr (nS D) q p := fun q h1 h2 => tot_ext (by omega) h1 (by omega) hz
        refine z_al0 eX8_spread_21 ?_
        refine z_ga eX8_spread_22 fX8_25 zs54 (t := 50) rfl ?_
        refine z_al0 eX8_spread_25 ?_
        refine z_ga eX8_spread_26 fX8_21 zs54 (t := 4) rfl ?_
        refine z_gi eX8_spread_29 fX8_49 zs4 ?_
        refine z_al0 eX8_spread_32 ?_
        refine z_ga eX8_spread_33 fX8_15 zs54 (t := 56) rfl ?_
        rw [show h 4 1 = (((D 2).toNat : Nat) : Int) from e1.trans (stN hb)]
        refine zc_vi2 eX8_spread_36 lX8_68 tX2_winnerOf zs50 (by omega) (Nat.le_of_ble_eq_true rfl) (x_winWD Hr h122 56 rfl (by decide) (wR D p) (fun j hj => m7 j hj (by omega)) hvb _ (stL hb hst)) ?_
        rintro _ g ⟨rfl, hfr⟩ -
        have hg : zXf h g := zXf.rf.fr hfr (by decide) (fun _ => rfl)
        have Hmg : sP D a wn kd m ch 99 p g := ⟨Hr.xf hg, (hfr 122 (by decide)).trans h122, by rw [hfr 54 (by decide)]; exact ⟨m2, m3, m4, m5⟩, fun j j1 j2 => by rw [hfr 55 (by decide)]; exact m6 j j1 j2, fun j j1 j2 => by rw [hfr 56 (by decide)]; exact m7 j j1 j2, by rw [hfr 54 (by decide)]; exact m8⟩
        refine z_al0 eX8_spread_39 ?_
        refine z_gi eX8_spread_40 fX8_29 zs54 ?_
        rw [hfr 54 (by decide), m2]
        refine z_cne eX8_spread_43 rfl (fun c43 => ?_) (fun c43 => ?_)
        · refine z_ki eX8_spread_50 ?_
          refine z_al0 eX8_spread_51 ?_
          refine z_gi eX8_spread_52 fX8_33 zs54 ?_
          rw [hfr 54 (by decide), m3]
          refine z_cne eX8_spread_55 rfl (fun c55 => ?_) (fun c55 => ?_)
          · refine ze_v eX8_spread_63 rfl ?_
            refine ⟨Hmg, ?_, hg⟩
            rw [hfr 54 (by decide), hfr 57 (by decide)]
            refine isB_skip HB (fun q hq => ⟨hq.1, hq.2.imp id (fun y => ⟨y.1, Or.inl y.2⟩)⟩) (fun q hq => Or.inl ⟨hq.1, ?_⟩)
            rcases hq.2 with z | ⟨z1, z2⟩
            · exact Or.inl z
            · refine Or.inr ⟨z1, ?_⟩
              rcases z2 with z | z
              · exact z
              · exfalso
                have y := (aimR_cg (hagn q z z1)).mp hq.1.2.2
                unfold aimR aimQ at y
                omega
          · refine z_al0 eX8_spread_58 ?_
            refine z_il3 eX8_spread_59 ?_
            refine zc_vv1 eX8_spread_60 lX8_105 tX8_keepTrial zs54 (by omega) (Nat.le_of_ble_eq_true rfl) (x_keepT _ _) ?_
            rintro _ rfl
            rw [show g 54 5 = m from Hmg.2.2.1.2.2.2]
            refine ze_v eX8_spread_63 rfl ?_
            have hk : zXf h (zcp (zup (zup g 54 8 m) 54 9 (cstR D p s)) 55 0 57 0 12) := ((hg.up (by omega) (by omega) rfl).up (by omega) (by omega) rfl).fr (fun c hc => zcp_off hc) (by decide) (fun _ => rfl)
            obtain ⟨n1, n2, ⟨n3, n4, n5, n6⟩, n7, n8, n9⟩ := Hmg
            refine ⟨⟨Hr.xf hk, (hk.2.1 122 (by omega)).trans h122, ?_, fun j j1 j2 => ?_, fun j j1 j2 => ?_, fun _ => Or.inr ?_⟩, ?_, hk⟩
            · rw [zcp_off (by decide), zup_ne (by decide), zup_ne (by decide), zup_ne (by decide), zup_ne (by decide), zup_ne (by decide), zup_ne (by decide), zup_ne (by decide), zup_ne (by decide)]
              exact ⟨n3, n4, n5, n6⟩
            · rw [zcp_off (by decide), zup_off (by decide), zup_off (by decide)]; exact n7 j j1 j2
            · rw [zcp_off (by decide), zup_off (by decide), zup_off (by decide)]; exact n8 j j1 j2
            · rw [zcp_off (by decide), zup_ne (by decide), zup_at]
            · rw [zcp_off (show ¬ 54 = 57 by decide), zup_ne (show ¬ (54 = 54 ∧ 8 = 9) by decide), zup_at, zup_at]
              have em : m = totR p (nS D) := by omega
              rw [show isB D (nS D) ch (P1X D a wn kd most m s p) m (cstR D p s) (zcp (zup (zup g 54 8 m) 54 9 (cstR D p s)) 55 0 57 0 12 57) = isB D (nS D) ch (P1X D a wn kd most m s p) (totR p (nS D)) (cstR D p (nS D)) (zcp (zup (zup g 54 8 m) 54 9 (cstR D p s)) 55 0 57 0 12 57) by rw [← em, ecst]]
              refine isB_cg (br := p) (fun i hi => ?_) (isB_take HB (p := p) ⟨⟨hfa, by omega, ?_⟩, Or.inr ⟨em.symm, Or.inr (fun i hi => rfl)⟩⟩ (fun q hq => ?_) ?_)
              · rw [zcp_on (by omega), zup_off (by decide), zup_off (by decide)]; exact n7 i (by omega) (by omega)
              · unfold aimR aimQ; omega
              · rcases hq.2 with z | ⟨z1, z2⟩
                · exact Or.inl ⟨hq.1, Or.inl z⟩
                · rcases z2 with z | z
                  · exact Or.inl ⟨hq.1, Or.inr ⟨z1, z⟩⟩
                  · exact Or.inr (fun i hi => (hagn q z z1 i hi).symm)
              · unfold klt
                rw [← em, ecst]
                by_cases e : ch = 0
                · have := m8 e
                  omega
                · omega
        · refine z_ki eX8_spread_46 ?_
          refine z_goto eX8_spread_47 rfl ?_
          refine z_al0 eX8_spread_51 ?_
          refine z_gi eX8_spread_52 fX8_33 zs54 ?_
          rw [hfr 54 (by decide), m3]
          refine z_cne eX8_spread_55 rfl (fun c55 => ?_) (fun c55 => ?_)
          · refine ze_v eX8_spread_63 rfl ?_
            refine ⟨Hmg, ?_, hg⟩
            rw [hfr 54 (by decide), hfr 57 (by decide)]
            refine isB_skip HB (fun q hq => ⟨hq.1, hq.2.imp id (fun y => ⟨y.1, Or.inl y.2⟩)⟩) (fun q hq => Or.inl ⟨hq.1, ?_⟩)
            rcases hq.2 with z | ⟨z1, z2⟩
            · exact Or.inl z
            · refine Or.inr ⟨z1, ?_⟩
              rcases z2 with z | z
              · exact z
              · exfalso
                have y := (aimR_cg (hagn q z z1)).mp hq.1.2.2
                unfold aimR aimQ at y
                omega
          · refine z_al0 eX8_spread_58 ?_
            refine z_il3 eX8_spread_59 ?_
            refine zc_vv1 eX8_spread_60 lX8_105 tX8_keepTrial zs54 (by omega) (Nat.le_of_ble_eq_true rfl) (x_keepT _ _) ?_
            rintro _ rfl
            rw [show g 54 5 = m from Hmg.2.2.1.2.2.2]
            refine ze_v eX8_spread_63 rfl ?_
            have hk : zXf h (zcp (zup (zup g 54 8 m) 54 9 (cstR D p s)) 55 0 57 0 12) := ((hg.up (by omega) (by omega) rfl).up (by omega) (by omega) rfl).fr (fun c hc => zcp_off hc) (by decide) (fun _ => rfl)
            obtain ⟨n1, n2, ⟨n3, n4, n5, n6⟩, n7, n8, n9⟩ := Hmg
            refine ⟨⟨Hr.xf hk, (hk.2.1 122 (by omega)).trans h122, ?_, fun j j1 j2 => ?_, fun j j1 j2 => ?_, fun _ => Or.inr ?_⟩, ?_, hk⟩
            · rw [zcp_off (by decide), zup_ne (by decide), zup_ne (by decide), zup_ne (by decide), zup_ne (by decide), zup_ne (by decide), zup_ne (by decide), zup_ne (by decide), zup_ne (by decide)]
              exact ⟨n3, n4, n5, n6⟩
            · rw [zcp_off (by decide), zup_off (by decide), zup_off (by decide)]; exact n7 j j1 j2
            · rw [zcp_off (by decide), zup_off (by decide), zup_off (by decide)]; exact n8 j j1 j2
            · rw [zcp_off (by decide), zup_ne (by decide), zup_at]
            · rw [zcp_off (show ¬ 54 = 57 by decide), zup_ne (show ¬ (54 = 54 ∧ 8 = 9) by decide), zup_at, zup_at]
              have em : m = totR p (nS D) := by omega
              rw [show isB D (nS D) ch (P1X D a wn kd most m s p) m (cstR D p s) (zcp (zup (zup g 54 8 m) 54 9 (cstR D p s)) 55 0 57 0 12 57) = isB D (nS D) ch (P1X D a wn kd most m s p) (totR p (nS D)) (cstR D p (nS D)) (zcp (zup (zup g 54 8 m) 54 9 (cstR D p s)) 55 0 57 0 12 57) by rw [← em, ecst]]
              refine isB_cg (br := p) (fun i hi => ?_) (isB_take HB (p := p) ⟨⟨hfa, by omega, ?_⟩, Or.inr ⟨em.symm, Or.inr (fun i hi => rfl)⟩⟩ (fun q hq => ?_) ?_)
              · rw [zcp_on (by omega), zup_off (by decide), zup_off (by decide)]; exact n7 i (by omega) (by omega)
              · unfold aimR aimQ; omega
              · rcases hq.2 with z | ⟨z1, z2⟩
                · exact Or.inl ⟨hq.1, Or.inl z⟩
                · rcases z2 with z | z
                  · exact Or.inl ⟨hq.1, Or.inr ⟨z1, z⟩⟩
                  · exact Or.inr (fun i hi => (hagn q z z1 i hi).symm)
              · unfold klt
                rw [← em, ecst]
                by_cases e : ch = 0
                · have := m8 e
                  omega
                · omega
    · refine ze_v eX8_spread_16 rfl ?_
      exact ⟨Hm, skipX hb (by omega) HB m8 c5 (by omega), zXf.rf⟩
theorem x_sp_o (D : Nat → Int) (hb : dB D) (hst : D 2 < ((2 ^ nN D : Nat) : Int)) (h12 : nS D ≤ 12) (a wn kd most m ch : Int) (hwn : wn = 0 ∨ wn = 1) (hkd : kd = 4 ∨ kd = 8 ∨ kd = 12) (hmo : 0 ≤ m ∧ m ≤ most ∧ most ≤ 5) (r : Nat) (IH : ∀ (s : Nat) (p : Nat → Int) (h : zHp), s + r = nS D → sP D a wn kd m ch 99 p h → (∀ j : Nat, s ≤ j → p j = 0) → pF D kd s p → totR p s ≤ m → isB D (nS D) ch (P0X D a wn kd most m s p) (h 54 8) (h 54 9) (h 57) → zCv mX8_spread (4 + r) [zA 54, zI s, zI (m - totR p s), zI (cstR D p s)] h (fun h' => sP D a wn kd m ch 99 p h' ∧ isB D (nS D) ch (P1X D a wn kd most m s p) (h' 54 8) (h' 54 9) (h' 57) ∧ zXf h h')) (s : Nat) (p : Nat → Int) (h : zHp) (hs : s + (r + 1) = nS D) (hz : ∀ j : Nat, s ≤ j → p j = 0) (hf : pF D kd s p) (ht : totR p s ≤ m) (Q : zHp → Prop) (k : Nat) (hk1 : 1 ≤ k) (hkr : (k : Int) ≤ m - totR p s) (then_ : Int) (hth : then_ = cstR D p s + k * D (60 + s)) (g : zHp) (Hg : sP D a wn kd m ch s p g) (hxf : zXf h g) (HBg : isB D (nS D) ch (PkX D a wn kd most m s p (2 * k)) (g 54 8) (g 54 9) (g 57)) (kE : ∀ g', sP D a wn kd m ch s p g' → zXf h g' → isB D (nS D) ch (PkX D a wn kd most m s p (2 * (k + 1) - 1)) (g' 54 8) (g' 54 9) (g' 57) → zRW mX8_spread (4 + (r + 1)) (0, 0) 94 [zA 54, zI s, zI (m - totR p s), zI (cstR D p s), zI ((k : Int) + 1), zU] [] 143 g' (zqv Q)) : zRW mX8_spread (4 + (r + 1)) (0, 0) 159 [zA 54, zI s, zI (m - totR p s), zI (cstR D p s), zI k, zI then_] [] 143 g (zqv Q) := by
  obtain ⟨Hr, h122, ⟨m2, m3, m4, m5⟩, m6, m7, m8⟩ := id Hg
  obtain ⟨⟨-, -, e0, e1, e7, ek, es, eo, hp⟩, hru⟩ : hallR g 4 D (g 123) ∧ ruleR g 24 D := by rw [← h122]; exact Hr
  have hbs := hb.2.2.2.2.1 s (by omega)
  have htn := totR_nn p s
  have e9 : g 9 s = D (20 + s) := (es s (by omega)).1
  have e10 : g 10 s = D (40 + s) := (es s (by omega)).2.1
  have e11 : g 11 s = D (60 + s) := (es s (by omega)).2.2
  have kk := kd48 hkd
  have hcb := cstR_b hb p s (by omega)
  have hcn : 0 ≤ cstR D p s := cstR_mono hb p (m := 0) (by omega) (by omega)
  refine z_al0 eX8_spread_159 ?_
  refine z_gi eX8_spread_160 fX8_37 zs54 ?_
  refine z_ki eX8_spread_163 ?_
  refine z_iand eX8_spread_165 ?_
  rw [m4]
  refine z_ieq eX8_spread_166 rfl (fun c166 => ?_) (fun c166 => ?_)
  · refine z_incN4 eX8_spread_204 zn0 (by omega) (by omega) ?_
    refine z_goto eX8_spread_207 rfl ?_
    refine z_fg5 ?_
    have HB3 : isB D (nS D) ch (PkX D a wn kd most m s p (2 * (k + 1) - 1)) (g 54 8) (g 54 9) (g 57) := by
      refine isB_skip HBg (fun z hz2 => ⟨hz2.1, hz2.2.imp id (fun y => ⟨y.1, y.2.imp id (fun w => ⟨w.1, by omega⟩)⟩)⟩) (fun z hz2 => Or.inl ⟨hz2.1, ?_⟩)
      rcases hz2.2 with y | ⟨y0, y⟩
      · exact Or.inl y
      · refine Or.inr ⟨y0, ?_⟩
        rcases y with y | ⟨y1, y2⟩
        · exact Or.inl y
        · refine Or.inr ⟨y1, ?_⟩
          by_cases e : rk (z s) = 2 * k
          · exfalso
            have ez : z s = -(k : Int) := rk_inj (by rw [e, rk_n])
            have fz := (hz2.1.1 s (by omega)).2 (by omega)
            omega
          · omega
    exact kE g Hg hxf HB3
  · refine z_il4 eX8_spread_169 ?_
    refine z_al0 eX8_spread_171 ?_
    refine z_ga eX8_spread_172 fX8_21 zs54 (t := 4) rfl ?_
    refine z_ga eX8_spread_175 fX8_65 zs4 (t := 9) rfl ?_
    refine z_il1 eX8_spread_178 ?_
    refine zr_iN eX8_spread_179 zs9 (j := s) (by omega) (by omega) ?_
    rw [e9]
    refine z_cgt eX8_spread_180 rfl (fun c180 => ?_) (fun c180 => ?_)
    · refine z_incN4 eX8_spread_204 zn0 (by omega) (by omega) ?_
      refine z_goto eX8_spread_207 rfl ?_
      refine z_fg5 ?_
      have HB3 : isB D (nS D) ch (PkX D a wn kd most m s p (2 * (k + 1) - 1)) (g 54 8) (g 54 9) (g 57) := by
        refine isB_skip HBg (fun z hz2 => ⟨hz2.1, hz2.2.imp id (fun y => ⟨y.1, y.2.imp id (fun w => ⟨w.1, by omega⟩)⟩)⟩) (fun z hz2 => Or.inl ⟨hz2.1, ?_⟩)
        rcases hz2.2 with y | ⟨y0, y⟩
        · exact Or.inl y
        · refine Or.inr ⟨y0, ?_⟩
          rcases y with y | ⟨y1, y2⟩
          · exact Or.inl y
          · refine Or.inr ⟨y1, ?_⟩
            by_cases e : rk (z s) = 2 * k
            · exfalso
              have ez : z s = -(k : Int) := rk_inj (by rw [e, rk_n])
              have fz := (hz2.1.1 s (by omega)).2 (by omega)
              omega
            · omega
      exact kE g Hg hxf HB3
    · have hmv := Hg.mv (-(k : Int))
      have hz2 : ∀ j : Nat, s + 1 ≤ j → fu p s (-(k : Int)) j = 0 := fun j hj => by unfold fu; rw [if_neg (by omega)]; exact hz j (by omega)
      have hf2 : pF D kd (s + 1) (fu p s (-(k : Int))) := fun j hj => by
        unfold fu
        by_cases e : j = s
        · rw [if_pos e, e]; unfold fe1; exact ⟨fun z => ⟨by omega, by omega⟩, fun z => ⟨by omega, by omega⟩⟩
        · rw [if_neg e]; exact hf j (by omega)
      have hab : absI (-(k : Int)) = (k : Int) := by unfold absI; split <;> omega
      have ht2 : totR (fu p s (-(k : Int))) (s + 1) = totR p s + k := by rw [tot_fu, hab]
      have hc2 : cstR D (fu p s (-(k : Int))) (s + 1) = cstR D p s + k * D (60 + s) := by rw [cst_fu, hab]
      have hB2 : isB D (nS D) ch (P0X D a wn kd most m (s + 1) (fu p s (-(k : Int)))) (zup (zup g 55 s (-(k : Int))) 56 s (D (20 + s) + (-(k : Int))) 54 8) (zup (zup g 55 s (-(k : Int))) 56 s (D (20 + s) + (-(k : Int))) 54 9) (zup (zup g 55 s (-(k : Int))) 56 s (D (20 + s) + (-(k : Int))) 57) := by
        rw [zup_off (show ¬ 54 = 56 by decide), zup_off (show ¬ 54 = 55 by decide), zup_off (show ¬ 57 = 56 by decide), zup_off (show ¬ 57 = 55 by decide)]
        refine isB_iff (fun z => ?_) HBg
        rw [P0X_fu, rk_n]
      refine z_al0 eX8_spread_183 ?_
      refine z_il1 eX8_spread_184 ?_
      refine z_il4 eX8_spread_185 ?_
      refine z_inegN eX8_spread_187 (by omega) ?_
      refine zc_vv2 eX8_spread_188 lX8_118 tX8_tryMove zs54 (by omega) (Nat.le_of_ble_eq_true rfl) (x_tryMove g s (by omega) _ (D (20 + s)) e9 (by omega)) ?_
      rintro _ rfl
      refine z_al0 eX8_spread_191 ?_
      refine z_il1 eX8_spread_192 ?_
      refine z_ki eX8_spread_193 ?_
      refine z_iaddN eX8_spread_194 (by omega) (by omega) ?_
      refine z_il2 eX8_spread_195 ?_
      refine z_il4 eX8_spread_196 ?_
      refine z_isubN eX8_spread_198 (by omega) (by omega) ?_
      refine z_il5 eX8_spread_199 ?_
      rw [show (s : Int) + 1 = ((s + 1 : Nat) : Int) by omega, show m - totR p s - (k : Int) = m - totR (fu p s (-(k : Int))) (s + 1) by rw [ht2]; omega, show then_ = cstR D (fu p s (-(k : Int))) (s + 1) by rw [hc2]; exact hth]
      refine zc_sv4 eX8_spread_201 lX8_101 tX8_spread (by omega) (Nat.le_of_ble_eq_true rfl) (IH (s + 1) (fu p s (-(k : Int))) _ (by omega) hmv.1 hz2 hf2 (by omega) hB2) ?_
      rintro g2 ⟨Hg2, HB2', hx2⟩
      refine z_incN4 eX8_spread_204 zn0 (by omega) (by omega) ?_
      refine z_goto eX8_spread_207 rfl ?_
      refine z_fg5 ?_
      obtain ⟨n1, n2, n3, n4, n5, n6⟩ := Hg2
      have Hg3 : sP D a wn kd m ch s p g2 := ⟨n1, n2, n3, fun j j1 j2 => by rw [n4 j j1 (by omega)]; exact if_neg j2, fun j j1 j2 => by rw [n5 j j1 (by omega), show fu p s (-(k : Int)) j = p j from if_neg j2], n6⟩
      have HB3 : isB D (nS D) ch (PkX D a wn kd most m s p (2 * (k + 1) - 1)) (g2 54 8) (g2 54 9) (g2 57) := isB_iff (fun z => by rw [← P1X_fu, rk_n, show 2 * (k + 1) - 1 = 2 * k + 1 by omega]) HB2'
      exact kE g2 Hg3 ((hxf.tr hmv.2).tr hx2) HB3
theorem x_sp_l (D : Nat → Int) (hb : dB D) (hst : D 2 < ((2 ^ nN D : Nat) : Int)) (h12 : nS D ≤ 12) (a wn kd most m ch : Int) (hwn : wn = 0 ∨ wn = 1) (hkd : kd = 4 ∨ kd = 8 ∨ kd = 12) (hmo : 0 ≤ m ∧ m ≤ most ∧ most ≤ 5) (r : Nat) (IH : ∀ (s : Nat) (p : Nat → Int) (h : zHp), s + r = nS D → sP D a wn kd m ch 99 p h → (∀ j : Nat, s ≤ j → p j = 0) → pF D kd s p → totR p s ≤ m → isB D (nS D) ch (P0X D a wn kd most m s p) (h 54 8) (h 54 9) (h 57) → zCv mX8_spread (4 + r) [zA 54, zI s, zI (m - totR p s), zI (cstR D p s)] h (fun h' => sP D a wn kd m ch 99 p h' ∧ isB D (nS D) ch (P1X D a wn kd most m s p) (h' 54 8) (h' 54 9) (h' 57) ∧ zXf h h')) (s : Nat) (p : Nat → Int) (h : zHp) (hs : s + (r + 1) = nS D) (hz : ∀ j : Nat, s ≤ j → p j = 0) (hf : pF D kd s p) (ht : totR p s ≤ m) : ∀ (q k : Nat) (g : zHp), (k : Int) + q = m - totR p s + 1 → 1 ≤ k → sP D a wn kd m ch s p g → zXf h g → isB D (nS D) ch (PkX D a wn kd most m s p (2 * k - 1)) (g 54 8) (g 54 9) (g 57) → zRW mX8_spread (4 + (r + 1)) (0, 0) 94 [zA 54, zI s, zI (m - totR p s), zI (cstR D p s), zI k, zU] [] 143 g (zqv (fun h' => sP D a wn kd m ch 99 p h' ∧ isB D (nS D) ch (P1X D a wn kd most m s p) (h' 54 8) (h' 54 9) (h' 57) ∧ zXf h h')) := by
  intro q
  induction q using Nat.strongRecOn with
  | ind q ih =>
    intro k g hk hk1 Hg hxf HBg
    obtain ⟨Hr, h122, ⟨m2, m3, m4, m5⟩, m6, m7, m8⟩ := id Hg
    obtain ⟨⟨-, -, e0, e1, e7, ek, es, eo, hp⟩, hru⟩ : hallR g 4 D (g 123) ∧ ruleR g 24 D := by rw [← h122]; exact Hr
    have hbs := hb.2.2.2.2.1 s (by omega)
    have htn := totR_nn p s
    have e9 : g 9 s = D (20 + s) := (es s (by omega)).1
    have e10 : g 10 s = D (40 + s) := (es s (by omega)).2.1
    have e11 : g 11 s = D (60 + s) := (es s (by omega)).2.2
    have kk := kd48 hkd
    have hcb := cstR_b hb p s (by omega)
    have hcn : 0 ≤ cstR D p s := cstR_mono hb p (m := 0) (by omega) (by omega)
    refine z_il4 eX8_spread_94 ?_
    refine z_il2 eX8_spread_96 ?_
    refine z_cgt eX8_spread_97 rfl (fun c97 => ?_) (fun c97 => ?_)
    · refine z_al0 eX8_spread_210 ?_
      refine z_il1 eX8_spread_211 ?_
      refine z_ki eX8_spread_212 ?_
      refine zc_vv2 eX8_spread_213 lX8_118 tX8_tryMove zs54 (by omega) (Nat.le_of_ble_eq_true rfl) (x_tryMove g s (by omega) _ (D (20 + s)) e9 (by omega)) ?_
      rintro _ rfl
      refine ze_v eX8_spread_216 rfl ?_
      obtain ⟨w1, w2⟩ := Hg.mv 0
      rw [fu_id (hz s (Nat.le_refl _))] at w1
      refine ⟨w1, ?_, hxf.tr w2⟩
      rw [zup_off (show ¬ 54 = 56 by decide), zup_off (show ¬ 54 = 55 by decide), zup_off (show ¬ 57 = 56 by decide), zup_off (show ¬ 57 = 55 by decide)]
      refine isB_iff (fun z => ⟨fun hz3 => ⟨hz3.1, hz3.2.imp id (fun y => ⟨y.1, y.2.imp id (fun w => ⟨w, ?_⟩)⟩)⟩, fun hz3 => ⟨hz3.1, hz3.2.imp id (fun y => ⟨y.1, y.2.imp id (fun w => w.1)⟩)⟩⟩) HBg
      have t1 := totR_mono z (show s + 1 ≤ nS D by omega)
      rw [totR_s, totR_cg w] at t1
      have t3 := absI_rk (z s)
      have t4 := y.1
      omega
    · have hv1 := Int.mul_nonneg (show 0 ≤ (k : Int) by omega) hbs.2.2.2.1
      have hv2 := Int.mul_le_mul (show (k : Int) ≤ 5 by omega) hbs.2.2.2.2 hbs.2.2.2.1 (by omega)
      refine z_il3 eX8_spread_100 ?_
      refine z_il4 eX8_spread_101 ?_
      refine z_al0 eX8_spread_103 ?_
      refine z_ga eX8_spread_104 fX8_21 zs54 (t := 4) rfl ?_
      refine z_ga eX8_spread_107 fX8_112 zs4 (t := 11) rfl ?_
      refine z_il1 eX8_spread_110 ?_
      refine zr_iN eX8_spread_111 zs11 (j := s) (by omega) (by omega) ?_
      rw [e11]
      refine z_imulN eX8_spread_112 (by omega) (by omega) ?_
      refine z_iaddN eX8_spread_113 (by omega) (by omega) ?_
      refine z_is5 eX8_spread_114 zn0 ?_
      refine z_al0 eX8_spread_116 ?_
      refine z_gi eX8_spread_117 fX8_37 zs54 ?_
      refine z_ki eX8_spread_120 ?_
      refine z_iand eX8_spread_121 ?_
      rw [m4]
      refine z_ieq eX8_spread_122 rfl (fun c122 => ?_) (fun c122 => ?_)
      · have HB3 : isB D (nS D) ch (PkX D a wn kd most m s p (2 * k)) (g 54 8) (g 54 9) (g 57) := by
          refine isB_skip HBg (fun z hz2 => ⟨hz2.1, hz2.2.imp id (fun y => ⟨y.1, y.2.imp id (fun w => ⟨w.1, by omega⟩)⟩)⟩) (fun z hz2 => Or.inl ⟨hz2.1, ?_⟩)
          rcases hz2.2 with y | ⟨y0, y⟩
          · exact Or.inl y
          · refine Or.inr ⟨y0, ?_⟩
            rcases y with y | ⟨y1, y2⟩
            · exact Or.inl y
            · refine Or.inr ⟨y1, ?_⟩
              by_cases e : rk (z s) = 2 * k - 1
              · exfalso
                have ez : z s = (k : Int) := rk_inj (by rw [e, rk_p hk1])
                have fz := (hz2.1.1 s (by omega)).1 (by omega)
                omega
              · omega
        exact x_sp_o D hb hst h12 a wn kd most m ch hwn hkd hmo r IH s p h hs hz hf ht _ k hk1 (by omega) _ rfl g Hg hxf HB3 (fun g4 Hg4 hx4 HB4 => by
          have q9 := ih (q - 1) (by omega) (k + 1) g4 (by omega) (by omega) Hg4 hx4 HB4
          exact q9)
      · refine z_il4 eX8_spread_125 ?_
        refine z_al0 eX8_spread_127 ?_
        refine z_ga eX8_spread_128 fX8_21 zs54 (t := 4) rfl ?_
        refine z_ga eX8_spread_131 fX8_115 zs4 (t := 10) rfl ?_
        refine z_il1 eX8_spread_134 ?_
        refine zr_iN eX8_spread_135 zs10 (j := s) (by omega) (by omega) ?_
        rw [e10]
        refine z_cgt eX8_spread_136 rfl (fun c136 => ?_) (fun c136 => ?_)
        · have HB3 : isB D (nS D) ch (PkX D a wn kd most m s p (2 * k)) (g 54 8) (g 54 9) (g 57) := by
            refine isB_skip HBg (fun z hz2 => ⟨hz2.1, hz2.2.imp id (fun y => ⟨y.1, y.2.imp id (fun w => ⟨w.1, by omega⟩)⟩)⟩) (fun z hz2 => Or.inl ⟨hz2.1, ?_⟩)
            rcases hz2.2 with y | ⟨y0, y⟩
            · exact Or.inl y
            · refine Or.inr ⟨y0, ?_⟩
              rcases y with y | ⟨y1, y2⟩
              · exact Or.inl y
              · refine Or.inr ⟨y1, ?_⟩
                by_cases e : rk (z s) = 2 * k - 1
                · exfalso
                  have ez : z s = (k : Int) := rk_inj (by rw [e, rk_p hk1])
                  have fz := (hz2.1.1 s (by omega)).1 (by omega)
                  omega
                · omega
          exact x_sp_o D hb hst h12 a wn kd most m ch hwn hkd hmo r IH s p h hs hz hf ht _ k hk1 (by omega) _ rfl g Hg hxf HB3 (fun g4 Hg4 hx4 HB4 => by
            have q9 := ih (q - 1) (by omega) (k + 1) g4 (by omega) (by omega) Hg4 hx4 HB4
            exact q9)
        · have hmv := Hg.mv ((k : Int))
          have hz2 : ∀ j : Nat, s + 1 ≤ j → fu p s ((k : Int)) j = 0 := fun j hj => by unfold fu; rw [if_neg (by omega)]; exact hz j (by omega)
          have hf2 : pF D kd (s + 1) (fu p s ((k : Int))) := fun j hj => by
            unfold fu
            by_cases e : j = s
            · rw [if_pos e, e]; unfold fe1; exact ⟨fun z => ⟨by omega, by omega⟩, fun z => ⟨by omega, by omega⟩⟩
            · rw [if_neg e]; exact hf j (by omega)
          have hab : absI ((k : Int)) = (k : Int) := by unfold absI; split <;> omega
          have ht2 : totR (fu p s ((k : Int))) (s + 1) = totR p s + k := by rw [tot_fu, hab]
          have hc2 : cstR D (fu p s ((k : Int))) (s + 1) = cstR D p s + k * D (60 + s) := by rw [cst_fu, hab]
          have hB2 : isB D (nS D) ch (P0X D a wn kd most m (s + 1) (fu p s ((k : Int)))) (zup (zup g 55 s ((k : Int))) 56 s (D (20 + s) + ((k : Int))) 54 8) (zup (zup g 55 s ((k : Int))) 56 s (D (20 + s) + ((k : Int))) 54 9) (zup (zup g 55 s ((k : Int))) 56 s (D (20 + s) + ((k : Int))) 57) := by
            rw [zup_off (show ¬ 54 = 56 by decide), zup_off (show ¬ 54 = 55 by decide), zup_off (show ¬ 57 = 56 by decide), zup_off (show ¬ 57 = 55 by decide)]
            refine isB_iff (fun z => ?_) HBg
            rw [P0X_fu, rk_p hk1]
          refine z_al0 eX8_spread_139 ?_
          refine z_il1 eX8_spread_140 ?_
          refine z_il4 eX8_spread_141 ?_
          refine zc_vv2 eX8_spread_143 lX8_118 tX8_tryMove zs54 (by omega) (Nat.le_of_ble_eq_true rfl) (x_tryMove g s (by omega) _ (D (20 + s)) e9 (by omega)) ?_
          rintro _ rfl
          refine z_al0 eX8_spread_146 ?_
          refine z_il1 eX8_spread_147 ?_
          refine z_ki eX8_spread_148 ?_
          refine z_iaddN eX8_spread_149 (by omega) (by omega) ?_
          refine z_il2 eX8_spread_150 ?_
          refine z_il4 eX8_spread_151 ?_
          refine z_isubN eX8_spread_153 (by omega) (by omega) ?_
          refine z_il5 eX8_spread_154 ?_
          rw [show (s : Int) + 1 = ((s + 1 : Nat) : Int) by omega, show m - totR p s - (k : Int) = m - totR (fu p s (k : Int)) (s + 1) by rw [ht2]; omega, show cstR D p s + (k : Int) * D (60 + s) = cstR D (fu p s (k : Int)) (s + 1) from hc2.symm]
          refine zc_sv4 eX8_spread_156 lX8_101 tX8_spread (by omega) (Nat.le_of_ble_eq_true rfl) (IH (s + 1) (fu p s (k : Int)) _ (by omega) hmv.1 hz2 hf2 (by omega) hB2) ?_
          rintro g2 ⟨Hg2, HB2', hx2⟩
          obtain ⟨n1, n2, n3, n4, n5, n6⟩ := Hg2
          have Hg3 : sP D a wn kd m ch s p g2 := ⟨n1, n2, n3, fun j j1 j2 => by rw [n4 j j1 (by omega)]; exact if_neg j2, fun j j1 j2 => by rw [n5 j j1 (by omega), show fu p s ((k : Int)) j = p j from if_neg j2], n6⟩
          have HB3 : isB D (nS D) ch (PkX D a wn kd most m s p (2 * k)) (g2 54 8) (g2 54 9) (g2 57) := isB_iff (fun z => by rw [← P1X_fu, rk_p hk1, show 2 * k - 1 + 1 = 2 * k by omega]) HB2'
          rw [hc2]
          exact x_sp_o D hb hst h12 a wn kd most m ch hwn hkd hmo r IH s p h hs hz hf ht _ k hk1 (by omega) _ rfl g2 Hg3 ((hxf.tr hmv.2).tr hx2) HB3 (fun g4 Hg4 hx4 HB4 => by
            have q9 := ih (q - 1) (by omega) (k + 1) g4 (by omega) (by omega) Hg4 hx4 HB4
            exact q9)
theorem x_spS (D : Nat → Int) (hb : dB D) (hst : D 2 < ((2 ^ nN D : Nat) : Int)) (h12 : nS D ≤ 12) (a wn kd most m ch : Int) (hwn : wn = 0 ∨ wn = 1) (hkd : kd = 4 ∨ kd = 8 ∨ kd = 12) (hmo : 0 ≤ m ∧ m ≤ most ∧ most ≤ 5) (r : Nat) (IH : ∀ (s : Nat) (p : Nat → Int) (h : zHp), s + r = nS D → sP D a wn kd m ch 99 p h → (∀ j : Nat, s ≤ j → p j = 0) → pF D kd s p → totR p s ≤ m → isB D (nS D) ch (P0X D a wn kd most m s p) (h 54 8) (h 54 9) (h 57) → zCv mX8_spread (4 + r) [zA 54, zI s, zI (m - totR p s), zI (cstR D p s)] h (fun h' => sP D a wn kd m ch 99 p h' ∧ isB D (nS D) ch (P1X D a wn kd most m s p) (h' 54 8) (h' 54 9) (h' 57) ∧ zXf h h')) (s : Nat) (p : Nat → Int) (h : zHp) (hs : s + (r + 1) = nS D) (Hm : sP D a wn kd m ch 99 p h) (hz : ∀ j : Nat, s ≤ j → p j = 0) (hf : pF D kd s p) (ht : totR p s ≤ m) (HB : isB D (nS D) ch (P0X D a wn kd most m s p) (h 54 8) (h 54 9) (h 57)) : zCv mX8_spread (4 + (r + 1)) [zA 54, zI s, zI (m - totR p s), zI (cstR D p s)] h (fun h' => sP D a wn kd m ch 99 p h' ∧ isB D (nS D) ch (P1X D a wn kd most m s p) (h' 54 8) (h' 54 9) (h' 57) ∧ zXf h h') := by
  refine z_enter [zA 54, zI s, zI (m - totR p s), zI (cstR D p s), zU, zU] (by decide +kernel) (Nat.le_of_ble_eq_true rfl) rfl (fun hra hrg => ?_)
  obtain ⟨Hr, h122, ⟨m2, m3, m4, m5⟩, m6, m7, m8⟩ := id Hm
  obtain ⟨⟨-, -, e0, e1, e7, ek, es, eo, hp⟩, hru⟩ : hallR h 4 D (h 123) ∧ ruleR h 24 D := by rw [← h122]; exact Hr
  have hS := nS_eq hb
  have hb2 := hb.2.2.1
  have htn := totR_nn p s
  have hle := isB_le HB
  refine z_al0 eX8_spread_0 ?_
  refine z_gi eX8_spread_1 fX8_40 zs54 ?_
  refine z_ki eX8_spread_4 ?_
  refine z_ceq eX8_spread_5 rfl (fun c5 => ?_) (fun c5 => ?_)
  · refine z_il2 eX8_spread_17 ?_
    refine z_ine eX8_spread_18 rfl (fun c18 => ?_) (fun c18 => ?_)
    · refine z_il1 eX8_spread_64 ?_
      refine z_al0 eX8_spread_65 ?_
      refine z_ga eX8_spread_66 fX8_21 zs54 (t := 4) rfl ?_
      refine z_gi eX8_spread_69 fX8_109 zs4 ?_
      refine z_cge eX8_spread_72 rfl (fun c72 => ?_) (fun c72 => ?_)
      · exfalso; omega
      · refine z_il1 eX8_spread_75 ?_
        refine z_ki eX8_spread_76 ?_
        refine z_clt eX8_spread_78 rfl (fun c78 => ?_) (fun c78 => ?_)
        · refine z_al0 eX8_spread_82 ?_
          refine z_il1 eX8_spread_83 ?_
          refine z_ki eX8_spread_84 ?_
          refine z_iaddN eX8_spread_85 (by omega) (by omega) ?_
          refine z_il2 eX8_spread_86 ?_
          refine z_il3 eX8_spread_87 ?_
          have HB1 : isB D (nS D) ch (P0X D a wn kd most m (s + 1) p) (h 54 8) (h 54 9) (h 57) := isB_iff (fun z => by
            have e := P0X_fu (D := D) (a := a) (wn := wn) (kd := kd) (most := most) (m := m) (s := s) (p := p) (y := 0) z
            rw [fu_id (hz s (Nat.le_refl _)), show rk 0 = 0 by decide] at e
            exact e.trans ⟨fun w => ⟨w.1, w.2.imp id (fun y => ⟨y.1, y.2.elim id (fun x => absurd x.2 (Nat.not_lt_zero _))⟩)⟩, fun w => ⟨w.1, w.2.imp id (fun y => ⟨y.1, Or.inl y.2⟩)⟩⟩) HB
          have hf1 : pF D kd (s + 1) p := fun j hj => by
            by_cases e : j < s
            · exact hf j e
            · rw [hz j (by omega)]; exact ⟨fun z => absurd z (by omega), fun z => absurd z (by omega)⟩
          rw [show (s : Int) + 1 = ((s + 1 : Nat) : Int) by omega, show m - totR p s = m - totR p (s + 1) by rw [tot_z hz (s + 1) (by omega)], ← cst_z (D := D) hz (s + 1) (by omega)]
          refine zc_sv4 eX8_spread_88 lX8_101 tX8_spread (by omega) (Nat.le_of_ble_eq_true rfl) (IH (s + 1) p h (by omega) Hm (fun j hj => hz j (by omega)) hf1 (by rw [tot_z hz (s + 1) (by omega)]; exact ht) HB1) ?_
          rintro g2 ⟨Hg2, HB2', hx2⟩
          refine z_ki eX8_spread_91 ?_
          refine z_is4 eX8_spread_92 zn0 ?_
          rw [tot_z hz (s + 1) (by omega), cst_z (D := D) hz (s + 1) (by omega)]
          obtain ⟨n1, n2, n3, n4, n5, n6⟩ := Hg2
          exact x_sp_l D hb hst h12 a wn kd most m ch hwn hkd hmo r IH s p h hs hz hf ht (m - totR p s).toNat 1 g2 (by omega) (Nat.le_refl _) ⟨n1, n2, n3, fun j j1 j2 => n4 j j1 (by omega), fun j j1 j2 => n5 j j1 (by omega), n6⟩ hx2 (isB_iff (fun z => by
            have e := P1X_fu (D := D) (a := a) (wn := wn) (kd := kd) (most := most) (m := m) (s := s) (p := p) (y := 0) z
            rw [fu_id (hz s (Nat.le_refl _))] at e
            exact e) HB2')
        · exfalso; omega
    · have hfa : ∀ j : Nat, j < nS D → fe1 D kd j (p j) := fun j hj => by
        by_cases e : j < s
        · exact hf j e
        · rw [hz j (by omega)]; exact ⟨fun z => absurd z (by omega), fun z => absurd z (by omega)⟩
      have hvb := wR_b hb hfa
      have etot := tot_z hz (nS D) (by omega)
      have ecst := cst_z (D := D) hz (nS D) (by omega)
      have hagn : ∀ q, agr s q p → totR q (nS D) = m → agr (nS D) q p := fun q h1 h2 => tot_ext (by omega) h1 (by omega) hz
      refine z_al0 eX8_spread_21 ?_
      refine z_ga eX8_spread_22 fX8_25 zs54 (t := 50) rfl ?_
      refine z_al0 eX8_spread_25 ?_
      refine z_ga eX8_spread_26 fX8_21 zs54 (t := 4) rfl ?_
      refine z_gi eX8_spread_29 fX8_49 zs4 ?_
      refine z_al0 eX8_spread_32 ?_
      refine z_ga eX8_spread_33 fX8_15 zs54 (t := 56) rfl ?_
      rw [show h 4 1 = (((D 2).toNat : Nat) : Int) from e1.trans (stN hb)]
      refine zc_vi2 eX8_spread_36 lX8_68 tX2_winnerOf zs50 (by omega) (Nat.le_of_ble_eq_true rfl) (x_winWD Hr h122 56 rfl (by decide) (wR D p) (fun j hj => m7 j hj (by omega)) hvb _ (stL hb hst)) ?_
      rintro _ g ⟨rfl, hfr⟩ -
      have hg : zXf h g := zXf.rf.fr hfr (by decide) (fun _ => rfl)
      have Hmg : sP D a wn kd m ch 99 p g := ⟨Hr.xf hg, (hfr 122 (by decide)).trans h122, by rw [hfr 54 (by decide)]; exact ⟨m2, m3, m4, m5⟩, fun j j1 j2 => by rw [hfr 55 (by decide)]; exact m6 j j1 j2, fun j j1 j2 => by rw [hfr 56 (by decide)]; exact m7 j j1 j2, by rw [hfr 54 (by decide)]; exact m8⟩
      refine z_al0 eX8_spread_39 ?_
      refine z_gi eX8_spread_40 fX8_29 zs54 ?_
      rw [hfr 54 (by decide), m2]
      refine z_cne eX8_spread_43 rfl (fun c43 => ?_) (fun c43 => ?_)
      · refine z_ki eX8_spread_50 ?_
        refine z_al0 eX8_spread_51 ?_
        refine z_gi eX8_spread_52 fX8_33 zs54 ?_
        rw [hfr 54 (by decide), m3]
        refine z_cne eX8_spread_55 rfl (fun c55 => ?_) (fun c55 => ?_)
        · refine ze_v eX8_spread_63 rfl ?_
          refine ⟨Hmg, ?_, hg⟩
          rw [hfr 54 (by decide), hfr 57 (by decide)]
          refine isB_skip HB (fun q hq => ⟨hq.1, hq.2.imp id (fun y => ⟨y.1, Or.inl y.2⟩)⟩) (fun q hq => Or.inl ⟨hq.1, ?_⟩)
          rcases hq.2 with z | ⟨z1, z2⟩
          · exact Or.inl z
          · refine Or.inr ⟨z1, ?_⟩
            rcases z2 with z | z
            · exact z
            · exfalso
              have y := (aimR_cg (hagn q z z1)).mp hq.1.2.2
              unfold aimR aimQ at y
              omega
        · refine z_al0 eX8_spread_58 ?_
          refine z_il3 eX8_spread_59 ?_
          refine zc_vv1 eX8_spread_60 lX8_105 tX8_keepTrial zs54 (by omega) (Nat.le_of_ble_eq_true rfl) (x_keepT _ _) ?_
          rintro _ rfl
          rw [show g 54 5 = m from Hmg.2.2.1.2.2.2]
          refine ze_v eX8_spread_63 rfl ?_
          have hk : zXf h (zcp (zup (zup g 54 8 m) 54 9 (cstR D p s)) 55 0 57 0 12) := ((hg.up (by omega) (by omega) rfl).up (by omega) (by omega) rfl).fr (fun c hc => zcp_off hc) (by decide) (fun _ => rfl)
          obtain ⟨n1, n2, ⟨n3, n4, n5, n6⟩, n7, n8, n9⟩ := Hmg
          refine ⟨⟨Hr.xf hk, (hk.2.1 122 (by omega)).trans h122, ?_, fun j j1 j2 => ?_, fun j j1 j2 => ?_, fun _ => Or.inr ?_⟩, ?_, hk⟩
          · rw [zcp_off (by decide), zup_ne (by decide), zup_ne (by decide), zup_ne (by decide), zup_ne (by decide), zup_ne (by decide), zup_ne (by decide), zup_ne (by decide), zup_ne (by decide)]
            exact ⟨n3, n4, n5, n6⟩
          · rw [zcp_off (by decide), zup_off (by decide), zup_off (by decide)]; exact n7 j j1 j2
          · rw [zcp_off (by decide), zup_off (by decide), zup_off (by decide)]; exact n8 j j1 j2
          · rw [zcp_off (by decide), zup_ne (by decide), zup_at]
          · rw [zcp_off (show ¬ 54 = 57 by decide), zup_ne (show ¬ (54 = 54 ∧ 8 = 9) by decide), zup_at, zup_at]
            have em : m = totR p (nS D) := by omega
            rw [show isB D (nS D) ch (P1X D a wn kd most m s p) m (cstR D p s) (zcp (zup (zup g 54 8 m) 54 9 (cstR D p s)) 55 0 57 0 12 57) = isB D (nS D) ch (P1X D a wn kd most m s p) (totR p (nS D)) (cstR D p (nS D)) (zcp (zup (zup g 54 8 m) 54 9 (cstR D p s)) 55 0 57 0 12 57) by rw [← em, ecst]]
            refine isB_cg (br := p) (fun i hi => ?_) (isB_take HB (p := p) ⟨⟨hfa, by omega, ?_⟩, Or.inr ⟨em.symm, Or.inr (fun i hi => rfl)⟩⟩ (fun q hq => ?_) ?_)
            · rw [zcp_on (by omega), zup_off (by decide), zup_off (by decide)]; exact n7 i (by omega) (by omega)
            · unfold aimR aimQ; omega
            · rcases hq.2 with z | ⟨z1, z2⟩
              · exact Or.inl ⟨hq.1, Or.inl z⟩
              · rcases z2 with z | z
                · exact Or.inl ⟨hq.1, Or.inr ⟨z1, z⟩⟩
                · exact Or.inr (fun i hi => (hagn q z z1 i hi).symm)
            · unfold klt
              rw [← em, ecst]
              by_cases e : ch = 0
              · have := m8 e
                omega
              · omega
      · refine z_ki eX8_spread_46 ?_
        refine z_goto eX8_spread_47 rfl ?_
        refine z_al0 eX8_spread_51 ?_
        refine z_gi eX8_spread_52 fX8_33 zs54 ?_
        rw [hfr 54 (by decide), m3]
        refine z_cne eX8_spread_55 rfl (fun c55 => ?_) (fun c55 => ?_)
        · refine ze_v eX8_spread_63 rfl ?_
          refine ⟨Hmg, ?_, hg⟩
          rw [hfr 54 (by decide), hfr 57 (by decide)]
          refine isB_skip HB (fun q hq => ⟨hq.1, hq.2.imp id (fun y => ⟨y.1, Or.inl y.2⟩)⟩) (fun q hq => Or.inl ⟨hq.1, ?_⟩)
          rcases hq.2 with z | ⟨z1, z2⟩
          · exact Or.inl z
          · refine Or.inr ⟨z1, ?_⟩
            rcases z2 with z | z
            · exact z
            · exfalso
              have y := (aimR_cg (hagn q z z1)).mp hq.1.2.2
              unfold aimR aimQ at y
              omega
        · refine z_al0 eX8_spread_58 ?_
          refine z_il3 eX8_spread_59 ?_
          refine zc_vv1 eX8_spread_60 lX8_105 tX8_keepTrial zs54 (by omega) (Nat.le_of_ble_eq_true rfl) (x_keepT _ _) ?_
          rintro _ rfl
          rw [show g 54 5 = m from Hmg.2.2.1.2.2.2]
          refine ze_v eX8_spread_63 rfl ?_
          have hk : zXf h (zcp (zup (zup g 54 8 m) 54 9 (cstR D p s)) 55 0 57 0 12) := ((hg.up (by omega) (by omega) rfl).up (by omega) (by omega) rfl).fr (fun c hc => zcp_off hc) (by decide) (fun _ => rfl)
          obtain ⟨n1, n2, ⟨n3, n4, n5, n6⟩, n7, n8, n9⟩ := Hmg
          refine ⟨⟨Hr.xf hk, (hk.2.1 122 (by omega)).trans h122, ?_, fun j j1 j2 => ?_, fun j j1 j2 => ?_, fun _ => Or.inr ?_⟩, ?_, hk⟩
          · rw [zcp_off (by decide), zup_ne (by decide), zup_ne (by decide), zup_ne (by decide), zup_ne (by decide), zup_ne (by decide), zup_ne (by decide), zup_ne (by decide), zup_ne (by decide)]
            exact ⟨n3, n4, n5, n6⟩
          · rw [zcp_off (by decide), zup_off (by decide), zup_off (by decide)]; exact n7 j j1 j2
          · rw [zcp_off (by decide), zup_off (by decide), zup_off (by decide)]; exact n8 j j1 j2
          · rw [zcp_off (by decide), zup_ne (by decide), zup_at]
          · rw [zcp_off (show ¬ 54 = 57 by decide), zup_ne (show ¬ (54 = 54 ∧ 8 = 9) by decide), zup_at, zup_at]
            have em : m = totR p (nS D) := by omega
            rw [show isB D (nS D) ch (P1X D a wn kd most m s p) m (cstR D p s) (zcp (zup (zup g 54 8 m) 54 9 (cstR D p s)) 55 0 57 0 12 57) = isB D (nS D) ch (P1X D a wn kd most m s p) (totR p (nS D)) (cstR D p (nS D)) (zcp (zup (zup g 54 8 m) 54 9 (cstR D p s)) 55 0 57 0 12 57) by rw [← em, ecst]]
            refine isB_cg (br := p) (fun i hi => ?_) (isB_take HB (p := p) ⟨⟨hfa, by omega, ?_⟩, Or.inr ⟨em.symm, Or.inr (fun i hi => rfl)⟩⟩ (fun q hq => ?_) ?_)
            · rw [zcp_on (by omega), zup_off (by decide), zup_off (by decide)]; exact n7 i (by omega) (by omega)
            · unfold aimR aimQ; omega
            · rcases hq.2 with z | ⟨z1, z2⟩
              · exact Or.inl ⟨hq.1, Or.inl z⟩
              · rcases z2 with z | z
                · exact Or.inl ⟨hq.1, Or.inr ⟨z1, z⟩⟩
                · exact Or.inr (fun i hi => (hagn q z z1 i hi).symm)
            · unfold klt
              rw [← em, ecst]
              by_cases e : ch = 0
              · have := m8 e
                omega
              · omega
  · refine z_il3 eX8_spread_8 ?_
    refine z_al0 eX8_spread_9 ?_
    refine z_gi eX8_spread_10 fX8_74 zs54 ?_
    refine z_clt eX8_spread_13 rfl (fun c13 => ?_) (fun c13 => ?_)
    · refine z_il2 eX8_spread_17 ?_
      refine z_ine eX8_spread_18 rfl (fun c18 => ?_) (fun c18 => ?_)
      · refine z_il1 eX8_spread_64 ?_
        refine z_al0 eX8_spread_65 ?_
        refine z_ga eX8_spread_66 fX8_21 zs54 (t := 4) rfl ?_
        refine z_gi eX8_spread_69 fX8_109 zs4 ?_
        refine z_cge eX8_spread_72 rfl (fun c72 => ?_) (fun c72 => ?_)
        · exfalso; omega
        · refine z_il1 eX8_spread_75 ?_
          refine z_ki eX8_spread_76 ?_
          refine z_clt eX8_spread_78 rfl (fun c78 => ?_) (fun c78 => ?_)
          · refine z_al0 eX8_spread_82 ?_
            refine z_il1 eX8_spread_83 ?_
            refine z_ki eX8_spread_84 ?_
            refine z_iaddN eX8_spread_85 (by omega) (by omega) ?_
            refine z_il2 eX8_spread_86 ?_
            refine z_il3 eX8_spread_87 ?_
            have HB1 : isB D (nS D) ch (P0X D a wn kd most m (s + 1) p) (h 54 8) (h 54 9) (h 57) := isB_iff (fun z => by
              have e := P0X_fu (D := D) (a := a) (wn := wn) (kd := kd) (most := most) (m := m) (s := s) (p := p) (y := 0) z
              rw [fu_id (hz s (Nat.le_refl _)), show rk 0 = 0 by decide] at e
              exact e.trans ⟨fun w => ⟨w.1, w.2.imp id (fun y => ⟨y.1, y.2.elim id (fun x => absurd x.2 (Nat.not_lt_zero _))⟩)⟩, fun w => ⟨w.1, w.2.imp id (fun y => ⟨y.1, Or.inl y.2⟩)⟩⟩) HB
            have hf1 : pF D kd (s + 1) p := fun j hj => by
              by_cases e : j < s
              · exact hf j e
              · rw [hz j (by omega)]; exact ⟨fun z => absurd z (by omega), fun z => absurd z (by omega)⟩
            rw [show (s : Int) + 1 = ((s + 1 : Nat) : Int) by omega, show m - totR p s = m - totR p (s + 1) by rw [tot_z hz (s + 1) (by omega)], ← cst_z (D := D) hz (s + 1) (by omega)]
            refine zc_sv4 eX8_spread_88 lX8_101 tX8_spread (by omega) (Nat.le_of_ble_eq_true rfl) (IH (s + 1) p h (by omega) Hm (fun j hj => hz j (by omega)) hf1 (by rw [tot_z hz (s + 1) (by omega)]; exact ht) HB1) ?_
            rintro g2 ⟨Hg2, HB2', hx2⟩
            refine z_ki eX8_spread_91 ?_
            refine z_is4 eX8_spread_92 zn0 ?_
            rw [tot_z hz (s + 1) (by omega), cst_z (D := D) hz (s + 1) (by omega)]
            obtain ⟨n1, n2, n3, n4, n5, n6⟩ := Hg2
            exact x_sp_l D hb hst h12 a wn kd most m ch hwn hkd hmo r IH s p h hs hz hf ht (m - totR p s).toNat 1 g2 (by omega) (Nat.le_refl _) ⟨n1, n2, n3, fun j j1 j2 => n4 j j1 (by omega), fun j j1 j2 => n5 j j1 (by omega), n6⟩ hx2 (isB_iff (fun z => by
              have e := P1X_fu (D := D) (a := a) (wn := wn) (kd := kd) (most := most) (m := m) (s := s) (p := p) (y := 0) z
              rw [fu_id (hz s (Nat.le_refl _))] at e
              exact e) HB2')
          · exfalso; omega
      · have hfa : ∀ j : Nat, j < nS D → fe1 D kd j (p j) := fun j hj => by
          by_cases e : j < s
          · exact hf j e
          · rw [hz j (by omega)]; exact ⟨fun z => absurd z (by omega), fun z => absurd z (by omega)⟩
        have hvb := wR_b hb hfa
        have etot := tot_z hz (nS D) (by omega)
        have ecst := cst_z (D := D) hz (nS D) (by omega)
        have hagn : ∀ q, agr s q p → totR q (nS D) = m → agr (nS D) q p := fun q h1 h2 => tot_ext (by omega) h1 (by omega) hz
        refine z_al0 eX8_spread_21 ?_
        refine z_ga eX8_spread_22 fX8_25 zs54 (t := 50) rfl ?_
        refine z_al0 eX8_spread_25 ?_
        refine z_ga eX8_spread_26 fX8_21 zs54 (t := 4) rfl ?_
        refine z_gi eX8_spread_29 fX8_49 zs4 ?_
        refine z_al0 eX8_spread_32 ?_
        refine z_ga eX8_spread_33 fX8_15 zs54 (t := 56) rfl ?_
        rw [show h 4 1 = (((D 2).toNat : Nat) : Int) from e1.trans (stN hb)]
        refine zc_vi2 eX8_spread_36 lX8_68 tX2_winnerOf zs50 (by omega) (Nat.le_of_ble_eq_true rfl) (x_winWD Hr h122 56 rfl (by decide) (wR D p) (fun j hj => m7 j hj (by omega)) hvb _ (stL hb hst)) ?_
        rintro _ g ⟨rfl, hfr⟩ -
        have hg : zXf h g := zXf.rf.fr hfr (by decide) (fun _ => rfl)
        have Hmg : sP D a wn kd m ch 99 p g := ⟨Hr.xf hg, (hfr 122 (by decide)).trans h122, by rw [hfr 54 (by decide)]; exact ⟨m2, m3, m4, m5⟩, fun j j1 j2 => by rw [hfr 55 (by decide)]; exact m6 j j1 j2, fun j j1 j2 => by rw [hfr 56 (by decide)]; exact m7 j j1 j2, by rw [hfr 54 (by decide)]; exact m8⟩
        refine z_al0 eX8_spread_39 ?_
        refine z_gi eX8_spread_40 fX8_29 zs54 ?_
        rw [hfr 54 (by decide), m2]
        refine z_cne eX8_spread_43 rfl (fun c43 => ?_) (fun c43 => ?_)
        · refine z_ki eX8_spread_50 ?_
          refine z_al0 eX8_spread_51 ?_
          refine z_gi eX8_spread_52 fX8_33 zs54 ?_
          rw [hfr 54 (by decide), m3]
          refine z_cne eX8_spread_55 rfl (fun c55 => ?_) (fun c55 => ?_)
          · refine ze_v eX8_spread_63 rfl ?_
            refine ⟨Hmg, ?_, hg⟩
            rw [hfr 54 (by decide), hfr 57 (by decide)]
            refine isB_skip HB (fun q hq => ⟨hq.1, hq.2.imp id (fun y => ⟨y.1, Or.inl y.2⟩)⟩) (fun q hq => Or.inl ⟨hq.1, ?_⟩)
            rcases hq.2 with z | ⟨z1, z2⟩
            · exact Or.inl z
            · refine Or.inr ⟨z1, ?_⟩
              rcases z2 with z | z
              · exact z
              · exfalso
                have y := (aimR_cg (hagn q z z1)).mp hq.1.2.2
                unfold aimR aimQ at y
                omega
          · refine z_al0 eX8_spread_58 ?_
            refine z_il3 eX8_spread_59 ?_
            refine zc_vv1 eX8_spread_60 lX8_105 tX8_keepTrial zs54 (by omega) (Nat.le_of_ble_eq_true rfl) (x_keepT _ _) ?_
            rintro _ rfl
            rw [show g 54 5 = m from Hmg.2.2.1.2.2.2]
            refine ze_v eX8_spread_63 rfl ?_
            have hk : zXf h (zcp (zup (zup g 54 8 m) 54 9 (cstR D p s)) 55 0 57 0 12) := ((hg.up (by omega) (by omega) rfl).up (by omega) (by omega) rfl).fr (fun c hc => zcp_off hc) (by decide) (fun _ => rfl)
            obtain ⟨n1, n2, ⟨n3, n4, n5, n6⟩, n7, n8, n9⟩ := Hmg
            refine ⟨⟨Hr.xf hk, (hk.2.1 122 (by omega)).trans h122, ?_, fun j j1 j2 => ?_, fun j j1 j2 => ?_, fun _ => Or.inr ?_⟩, ?_, hk⟩
            · rw [zcp_off (by decide), zup_ne (by decide), zup_ne (by decide), zup_ne (by decide), zup_ne (by decide), zup_ne (by decide), zup_ne (by decide), zup_ne (by decide), zup_ne (by decide)]
              exact ⟨n3, n4, n5, n6⟩
            · rw [zcp_off (by decide), zup_off (by decide), zup_off (by decide)]; exact n7 j j1 j2
            · rw [zcp_off (by decide), zup_off (by decide), zup_off (by decide)]; exact n8 j j1 j2
            · rw [zcp_off (by decide), zup_ne (by decide), zup_at]
            · rw [zcp_off (show ¬ 54 = 57 by decide), zup_ne (show ¬ (54 = 54 ∧ 8 = 9) by decide), zup_at, zup_at]
              have em : m = totR p (nS D) := by omega
              rw [show isB D (nS D) ch (P1X D a wn kd most m s p) m (cstR D p s) (zcp (zup (zup g 54 8 m) 54 9 (cstR D p s)) 55 0 57 0 12 57) = isB D (nS D) ch (P1X D a wn kd most m s p) (totR p (nS D)) (cstR D p (nS D)) (zcp (zup (zup g 54 8 m) 54 9 (cstR D p s)) 55 0 57 0 12 57) by rw [← em, ecst]]
              refine isB_cg (br := p) (fun i hi => ?_) (isB_take HB (p := p) ⟨⟨hfa, by omega, ?_⟩, Or.inr ⟨em.symm, Or.inr (fun i hi => rfl)⟩⟩ (fun q hq => ?_) ?_)
              · rw [zcp_on (by omega), zup_off (by decide), zup_off (by decide)]; exact n7 i (by omega) (by omega)
              · unfold aimR aimQ; omega
              · rcases hq.2 with z | ⟨z1, z2⟩
                · exact Or.inl ⟨hq.1, Or.inl z⟩
                · rcases z2 with z | z
                  · exact Or.inl ⟨hq.1, Or.inr ⟨z1, z⟩⟩
                  · exact Or.inr (fun i hi => (hagn q z z1 i hi).symm)
              · unfold klt
                rw [← em, ecst]
                by_cases e : ch = 0
                · have := m8 e
                  omega
                · omega
        · refine z_ki eX8_spread_46 ?_
          refine z_goto eX8_spread_47 rfl ?_
          refine z_al0 eX8_spread_51 ?_
          refine z_gi eX8_spread_52 fX8_33 zs54 ?_
          rw [hfr 54 (by decide), m3]
          refine z_cne eX8_spread_55 rfl (fun c55 => ?_) (fun c55 => ?_)
          · refine ze_v eX8_spread_63 rfl ?_
            refine ⟨Hmg, ?_, hg⟩
            rw [hfr 54 (by decide), hfr 57 (by decide)]
            refine isB_skip HB (fun q hq => ⟨hq.1, hq.2.imp id (fun y => ⟨y.1, Or.inl y.2⟩)⟩) (fun q hq => Or.inl ⟨hq.1, ?_⟩)
            rcases hq.2 with z | ⟨z1, z2⟩
            · exact Or.inl z
            · refine Or.inr ⟨z1, ?_⟩
              rcases z2 with z | z
              · exact z
              · exfalso
                have y := (aimR_cg (hagn q z z1)).mp hq.1.2.2
                unfold aimR aimQ at y
                omega
          · refine z_al0 eX8_spread_58 ?_
            refine z_il3 eX8_spread_59 ?_
            refine zc_vv1 eX8_spread_60 lX8_105 tX8_keepTrial zs54 (by omega) (Nat.le_of_ble_eq_true rfl) (x_keepT _ _) ?_
            rintro _ rfl
            rw [show g 54 5 = m from Hmg.2.2.1.2.2.2]
            refine ze_v eX8_spread_63 rfl ?_
            have hk : zXf h (zcp (zup (zup g 54 8 m) 54 9 (cstR D p s)) 55 0 57 0 12) := ((hg.up (by omega) (by omega) rfl).up (by omega) (by omega) rfl).fr (fun c hc => zcp_off hc) (by decide) (fun _ => rfl)
            obtain ⟨n1, n2, ⟨n3, n4, n5, n6⟩, n7, n8, n9⟩ := Hmg
            refine ⟨⟨Hr.xf hk, (hk.2.1 122 (by omega)).trans h122, ?_, fun j j1 j2 => ?_, fun j j1 j2 => ?_, fun _ => Or.inr ?_⟩, ?_, hk⟩
            · rw [zcp_off (by decide), zup_ne (by decide), zup_ne (by decide), zup_ne (by decide), zup_ne (by decide), zup_ne (by decide), zup_ne (by decide), zup_ne (by decide), zup_ne (by decide)]
              exact ⟨n3, n4, n5, n6⟩
            · rw [zcp_off (by decide), zup_off (by decide), zup_off (by decide)]; exact n7 j j1 j2
            · rw [zcp_off (by decide), zup_off (by decide), zup_off (by decide)]; exact n8 j j1 j2
            · rw [zcp_off (by decide), zup_ne (by decide), zup_at]
            · rw [zcp_off (show ¬ 54 = 57 by decide), zup_ne (show ¬ (54 = 54 ∧ 8 = 9) by decide), zup_at, zup_at]
              have em : m = totR p (nS D) := by omega
              rw [show isB D (nS D) ch (P1X D a wn kd most m s p) m (cstR D p s) (zcp (zup (zup g 54 8 m) 54 9 (cstR D p s)) 55 0 57 0 12 57) = isB D (nS D) ch (P1X D a wn kd most m s p) (totR p (nS D)) (cstR D p (nS D)) (zcp (zup (zup g 54 8 m) 54 9 (cstR D p s)) 55 0 57 0 12 57) by rw [← em, ecst]]
              refine isB_cg (br := p) (fun i hi => ?_) (isB_take HB (p := p) ⟨⟨hfa, by omega, ?_⟩, Or.inr ⟨em.symm, Or.inr (fun i hi => rfl)⟩⟩ (fun q hq => ?_) ?_)
              · rw [zcp_on (by omega), zup_off (by decide), zup_off (by decide)]; exact n7 i (by omega) (by omega)
              · unfold aimR aimQ; omega
              · rcases hq.2 with z | ⟨z1, z2⟩
                · exact Or.inl ⟨hq.1, Or.inl z⟩
                · rcases z2 with z | z
                  · exact Or.inl ⟨hq.1, Or.inr ⟨z1, z⟩⟩
                  · exact Or.inr (fun i hi => (hagn q z z1 i hi).symm)
              · unfold klt
                rw [← em, ecst]
                by_cases e : ch = 0
                · have := m8 e
                  omega
                · omega
    · refine ze_v eX8_spread_16 rfl ?_
      exact ⟨Hm, skipX hb (by omega) HB m8 c5 (by omega), zXf.rf⟩
theorem x_sp (D : Nat → Int) (hb : dB D) (hst : D 2 < ((2 ^ nN D : Nat) : Int)) (h12 : nS D ≤ 12) (a wn kd most m ch : Int) (hwn : wn = 0 ∨ wn = 1) (hkd : kd = 4 ∨ kd = 8 ∨ kd = 12) (hmo : 0 ≤ m ∧ m ≤ most ∧ most ≤ 5) : ∀ (r s : Nat) (p : Nat → Int) (h : zHp), s + r = nS D → sP D a wn kd m ch 99 p h → (∀ j : Nat, s ≤ j → p j = 0) → pF D kd s p → totR p s ≤ m → isB D (nS D) ch (P0X D a wn kd most m s p) (h 54 8) (h 54 9) (h 57) → zCv mX8_spread (4 + r) [zA 54, zI s, zI (m - totR p s), zI (cstR D p s)] h (fun h' => sP D a wn kd m ch 99 p h' ∧ isB D (nS D) ch (P1X D a wn kd most m s p) (h' 54 8) (h' 54 9) (h' 57) ∧ zXf h h') := by
  intro r
  induction r with
  | zero => intro s p h h1 h2 h3 h4 h5 h6; exact x_sp0 D hb hst h12 a wn kd most m ch hwn hkd hmo s p h h1 h2 h3 h4 h5 h6
  | succ r ih => intro s p h h1 h2 h3 h4 h5 h6; exact x_spS D hb hst h12 a wn kd most m ch hwn hkd hmo r ih s p h h1 h2 h3 h4 h5 h6
