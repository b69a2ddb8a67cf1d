-- people, safe (written by wip/tools/specV3.py)
theorem majF_bit (c : Nat → Int) (V : Int) (set : Nat) : ∀ r k, 0 ≤ majF c V set r k → set.testBit (majF c V set r k).toNat = true := by
  intro r
  induction r with
  | zero => intro k h; simp [majF] at h
  | succ r ih =>
    intro k h
    rw [majF] at h ⊢
    split
    · next q => rw [Int.toNat_natCast]; exact q.1
    · next q => rw [if_neg q] at h; exact ih (k + 1) h
theorem runF_sub {D w : Nat → Int} {V : Int} {k : Nat} : ∀ f set, (runF D w V f set).testBit k = true → set.testBit k = true := by
  intro f
  induction f with
  | zero => intro set h; exact h
  | succ f ih =>
    intro set h
    rw [runF] at h
    split at h
    · exact h
    · split at h
      · next hm =>
        have := majF_bit (cntO D w set) V set (nN D) 0 hm
        have e := tb_p2 h
        rw [e]
        exact this
      · have := ih _ h
        rw [Nat.testBit_xor, Nat.testBit_and] at this
        cases z : set.testBit k with
        | true => rfl
        | false => rw [z] at this; simp at this
theorem pairF_sub {D w : Nat → Int} {set k : Nat} : ∀ r a, (pairF D w set r a).testBit k = true → set.testBit k = true := by
  intro r
  induction r with
  | zero => intro a h; exact h
  | succ r ih =>
    intro a h
    rw [pairF] at h
    split at h
    · next q => rw [tb_p2 h]; exact q.1
    · exact ih (a + 1) h
theorem siftOf_sub {D w : Nat → Int} {V : Int} {set c k : Nat} (h : (siftOf D w V set c).testBit k = true) : set.testBit k = true := by
  unfold siftOf at h
  split at h
  · simp at h
  · split at h
    · exact runF_sub 8 set h
    · split at h
      · exact pairF_sub _ _ h
      · split at h
        · unfold barOf at h
          split at h
          · exact h
          · rw [pickN_bit, Bool.and_eq_true] at h
            have := h.2
            unfold barP at this
            rw [Bool.and_eq_true] at this
            exact this.1
        · unfold greatOf at h
          rw [pickN_bit, Bool.and_eq_true] at h
          have := h.2
          unfold grtP at this
          rw [Bool.and_eq_true] at this
          exact this.1
theorem lftOf_sub {D w : Nat → Int} {V : Int} {set k : Nat} : ∀ n, (lftOf D w V set n).testBit k = true → set.testBit k = true := by
  intro n
  induction n with
  | zero => intro h; exact h
  | succ n ih => intro h; exact ih (siftOf_sub h)
theorem winW_in {D w : Nat → Int} {set : Nat} (h : 0 ≤ winW D w set) : set.testBit (winW D w set).toNat = true := by
  have q := (winF_spec D (lftOf D w (sumN w (nS D)) set (D 240).toNat) (nN D) 0 (-1) (by omega) (by omega) (by omega)).2.2 h
  exact lftOf_sub _ q
theorem isB_0 {D : Nat → Int} {n : Nat} {ch bm bc : Int} {P : (Nat → Int) → Prop} {br : Nat → Int} (h : bm = -1) (hP : ∀ q, ¬ P q) : isB D n ch P bm bc br := Or.inl ⟨h, hP⟩
theorem isB_m1 {D : Nat → Int} {n : Nat} {ch bm bc : Int} {P : (Nat → Int) → Prop} {br : Nat → Int} (H : isB D n ch P bm bc br) : bm = -1 ∨ 0 ≤ bm := by
  rcases H with h | h
  · exact Or.inl h.1
  · exact Or.inr h.1
theorem no_ltx0 {q p : Nat → Int} : ¬ ltx 0 q p := fun ⟨j, h, _⟩ => by omega
theorem agr_0 {q p : Nat → Int} : agr 0 q p := fun i h => by omega
theorem x_bv_l (D : Nat → Int) (hb : dB D) (hst : D 2 < ((2 ^ nN D : Nat) : Int)) (h12 : nS D ≤ 12) (a wn kd most ch : Int) (ha : 0 ≤ a ∧ a < D 0) (hwn : wn = 0 ∨ wn = 1) (hkd : kd = 4 ∨ kd = 8 ∨ kd = 12) (hmo : 0 ≤ most ∧ most ≤ 5) (h : zHp) : ∀ (r m : Nat) (g : zHp), (m : Int) + r = most + 1 → rHR g → g 122 = D → (g 54 2 = a ∧ g 54 3 = wn ∧ g 54 4 = kd) → (∀ j : Nat, j < 12 → g 55 j = 0) → (∀ j : Nat, j < nS D → g 56 j = D (20 + j)) → zXf h g → isB D (nS D) ch (fun q => uR D a wn kd most q ∧ totR q (nS D) < m) (g 54 8) (g 54 9) (g 57) → zRW mX8_byVoters 17 (0, 0) 54 [zA 54, zI most, zI ch, zI m] [] 143 g (zqi (fun v h' => (if 0 ≤ h' 54 8 then 1 else 0) = v ∧ isB D (nS D) ch (uR D a wn kd most) (h' 54 8) (h' 54 9) (h' 57) ∧ zXf h h')) := by
  intro r
  induction r using Nat.strongRecOn with
  | ind r ih =>
    intro m g hm Hr h122 hk h55 h56 hxf HB
    have hml := isB_m1 HB
    refine z_il3 eX8_byVoters_54 ?_
    refine z_il1 eX8_byVoters_55 ?_
    refine z_cgt eX8_byVoters_56 rfl (fun c56 => ?_) (fun c56 => ?_)
    · refine z_al0 eX8_byVoters_89 ?_
      refine z_gi eX8_byVoters_90 fX8_40 zs54 ?_
      refine z_ki eX8_byVoters_93 ?_
      refine z_ceq eX8_byVoters_94 rfl (fun c94 => ?_) (fun c94 => ?_)
      · refine z_ki eX8_byVoters_101 ?_
        refine ze_z eX8_byVoters_102 rfl (by first | exact Or.inl rfl | exact Or.inr rfl) ?_
        have hfin : isB D (nS D) ch (uR D a wn kd most) (g 54 8) (g 54 9) (g 57) := by
          refine isB_iff (fun q => ⟨fun z => ⟨z, ?_⟩, fun z => z.1⟩) HB
          have := z.2.1
          omega
        exact ⟨by first | (rw [if_pos (by omega)]; done) | (rw [if_neg (by omega)]; done), hfin, hxf⟩
      · refine z_ki eX8_byVoters_97 ?_
        refine z_goto eX8_byVoters_98 rfl ?_
        refine ze_z eX8_byVoters_102 rfl (by first | exact Or.inl rfl | exact Or.inr rfl) ?_
        have hfin : isB D (nS D) ch (uR D a wn kd most) (g 54 8) (g 54 9) (g 57) := by
          refine isB_iff (fun q => ⟨fun z => ⟨z, ?_⟩, fun z => z.1⟩) HB
          have := z.2.1
          omega
        exact ⟨by first | (rw [if_pos (by omega)]; done) | (rw [if_neg (by omega)]; done), hfin, hxf⟩
    · refine z_il2 eX8_byVoters_59 ?_
      refine z_ine eX8_byVoters_60 rfl (fun c60 => ?_) (fun c60 => ?_)
      · refine z_al0 eX8_byVoters_71 ?_
        refine z_il3 eX8_byVoters_72 ?_
        refine z_pi eX8_byVoters_73 pX8_98 zs54 ?_
        refine z_al0 eX8_byVoters_76 ?_
        refine z_ki eX8_byVoters_77 ?_
        refine z_il3 eX8_byVoters_78 ?_
        refine z_ki eX8_byVoters_79 ?_
        have hXs : zXf h (zup g 54 5 (m : Int)) := hxf.up (by omega) (by omega) rfl
        have hX1 : zXf g (zup g 54 5 (m : Int)) := zXf.rf.up (by omega) (by omega) rfl
        have hsP : sP D a wn kd m ch 99 (fun _ => 0) (zup g 54 5 (m : Int)) := ⟨Hr.xf hX1, (hX1.2.1 122 (by omega)).trans h122, by rw [zup_ne (by decide), zup_ne (by decide), zup_ne (by decide), zup_at]; exact ⟨hk.1, hk.2.1, hk.2.2, rfl⟩, fun j j1 _ => by rw [zup_off (by decide)]; exact h55 j j1, fun j j1 _ => by rw [zup_off (by decide), h56 j j1]; show _ = _ + (0 : Int); omega, fun e => by rw [zup_ne (by decide)]; omega⟩
        have hB0 : isB D (nS D) ch (P0X D a wn kd most m 0 (fun _ => 0)) (zup g 54 5 (m : Int) 54 8) (zup g 54 5 (m : Int) 54 9) (zup g 54 5 (m : Int) 57) := by
          rw [zup_ne (by decide), zup_ne (by decide), zup_off (by decide)]
          exact isB_iff (fun q => ⟨fun z => ⟨z.1, z.2.elim id (fun y => absurd y.2 no_ltx0)⟩, fun z => ⟨z.1, Or.inl z.2⟩⟩) HB
        have hrow : (m : Int) - totR (fun _ => 0) 0 = (m : Int) := by show (m : Int) - 0 = m; omega
        have hspr : zCv mX8_spread 16 [zA 54, zI 0, zI m, zI 0] (zup g 54 5 (m : Int)) (fun h1 => sP D a wn kd m ch 99 (fun _ => 0) h1 ∧ isB D (nS D) ch (P1X D a wn kd most m 0 (fun _ => 0)) (h1 54 8) (h1 54 9) (h1 57) ∧ zXf (zup g 54 5 (m : Int)) h1) := by
          have q := (x_sp D hb hst h12 a wn kd most m ch hwn hkd (by omega) (nS D) 0 (fun _ => 0) _ (by omega) hsP (fun _ _ => rfl) (fun j hj => by omega) (by show (0 : Int) ≤ m; omega) hB0).mono (show 4 + nS D ≤ 16 by omega)
          rw [hrow] at q
          exact q
        refine zc_sv4 eX8_byVoters_80 lX8_101 tX8_spread (by decide) (Nat.le_of_ble_eq_true rfl) hspr ?_
        rintro g2 ⟨Hg2, HB2, hx2⟩
        obtain ⟨n1, n2, ⟨n3, n4, n5, n6⟩, n7, n8, n9⟩ := Hg2
        refine z_incN3 eX8_byVoters_83 zn0 (by omega) (by omega) ?_
        refine z_goto eX8_byVoters_86 rfl ?_
        have HBn : isB D (nS D) ch (fun q => uR D a wn kd most q ∧ totR q (nS D) < ((m + 1 : Nat) : Int)) (g2 54 8) (g2 54 9) (g2 57) := by
          refine isB_iff (P := P1X D a wn kd most m 0 (fun _ => 0)) (fun q => ⟨fun z => ⟨z.1, ?_⟩, fun z => ⟨z.1, ?_⟩⟩) HB2
          · have := z.2
            by_cases e : totR q (nS D) < m
            · exact Or.inl e
            · exact Or.inr ⟨by omega, Or.inr agr_0⟩
          · rcases z.2 with y | y
            · omega
            · have := y.1; omega
        exact ih (r - 1) (by omega) (m + 1) g2 (by omega) n1 n2 ⟨n3, n4, n5⟩ (fun j hj => n7 j hj (by omega)) (fun j hj => by rw [n8 j hj (by omega)]; show _ + (0 : Int) = _; omega) (hXs.tr hx2) HBn
      · refine z_al0 eX8_byVoters_63 ?_
        refine z_gi eX8_byVoters_64 fX8_40 zs54 ?_
        refine z_ki eX8_byVoters_67 ?_
        refine z_cne eX8_byVoters_68 rfl (fun c68 => ?_) (fun c68 => ?_)
        · refine z_al0 eX8_byVoters_89 ?_
          refine z_gi eX8_byVoters_90 fX8_40 zs54 ?_
          refine z_ki eX8_byVoters_93 ?_
          refine z_ceq eX8_byVoters_94 rfl (fun c94 => ?_) (fun c94 => ?_)
          · refine z_ki eX8_byVoters_101 ?_
            refine ze_z eX8_byVoters_102 rfl (by first | exact Or.inl rfl | exact Or.inr rfl) ?_
            have hfin : isB D (nS D) ch (uR D a wn kd most) (g 54 8) (g 54 9) (g 57) := by
              refine isB_skip HB (fun q z => z.1) (fun q z => ?_)
              by_cases e : totR q (nS D) < m
              · exact Or.inl ⟨z, e⟩
              · rcases HB with y | ⟨y1, b, y2, y3, y4, -⟩
                · omega
                · refine Or.inr ⟨y1, ?_, fun b2 z2 e2 _ => ?_⟩
                  · have := y2.2
                    unfold kle
                    omega
                  · have := z2.2
                    omega
            exact ⟨by first | (rw [if_pos (by omega)]; done) | (rw [if_neg (by omega)]; done), hfin, hxf⟩
          · refine z_ki eX8_byVoters_97 ?_
            refine z_goto eX8_byVoters_98 rfl ?_
            refine ze_z eX8_byVoters_102 rfl (by first | exact Or.inl rfl | exact Or.inr rfl) ?_
            have hfin : isB D (nS D) ch (uR D a wn kd most) (g 54 8) (g 54 9) (g 57) := by
              refine isB_skip HB (fun q z => z.1) (fun q z => ?_)
              by_cases e : totR q (nS D) < m
              · exact Or.inl ⟨z, e⟩
              · rcases HB with y | ⟨y1, b, y2, y3, y4, -⟩
                · omega
                · refine Or.inr ⟨y1, ?_, fun b2 z2 e2 _ => ?_⟩
                  · have := y2.2
                    unfold kle
                    omega
                  · have := z2.2
                    omega
            exact ⟨by first | (rw [if_pos (by omega)]; done) | (rw [if_neg (by omega)]; done), hfin, hxf⟩
        · refine z_al0 eX8_byVoters_71 ?_
          refine z_il3 eX8_byVoters_72 ?_
          refine z_pi eX8_byVoters_73 pX8_98 zs54 ?_
          refine z_al0 eX8_byVoters_76 ?_
          refine z_ki eX8_byVoters_77 ?_
          refine z_il3 eX8_byVoters_78 ?_
          refine z_ki eX8_byVoters_79 ?_
          have hXs : zXf h (zup g 54 5 (m : Int)) := hxf.up (by omega) (by omega) rfl
          have hX1 : zXf g (zup g 54 5 (m : Int)) := zXf.rf.up (by omega) (by omega) rfl
          have hsP : sP D a wn kd m ch 99 (fun _ => 0) (zup g 54 5 (m : Int)) := ⟨Hr.xf hX1, (hX1.2.1 122 (by omega)).trans h122, by rw [zup_ne (by decide), zup_ne (by decide), zup_ne (by decide), zup_at]; exact ⟨hk.1, hk.2.1, hk.2.2, rfl⟩, fun j j1 _ => by rw [zup_off (by decide)]; exact h55 j j1, fun j j1 _ => by rw [zup_off (by decide), h56 j j1]; show _ = _ + (0 : Int); omega, fun e => by rw [zup_ne (by decide)]; omega⟩
          have hB0 : isB D (nS D) ch (P0X D a wn kd most m 0 (fun _ => 0)) (zup g 54 5 (m : Int) 54 8) (zup g 54 5 (m : Int) 54 9) (zup g 54 5 (m : Int) 57) := by
            rw [zup_ne (by decide), zup_ne (by decide), zup_off (by decide)]
            exact isB_iff (fun q => ⟨fun z => ⟨z.1, z.2.elim id (fun y => absurd y.2 no_ltx0)⟩, fun z => ⟨z.1, Or.inl z.2⟩⟩) HB
          have hrow : (m : Int) - totR (fun _ => 0) 0 = (m : Int) := by show (m : Int) - 0 = m; omega
          have hspr : zCv mX8_spread 16 [zA 54, zI 0, zI m, zI 0] (zup g 54 5 (m : Int)) (fun h1 => sP D a wn kd m ch 99 (fun _ => 0) h1 ∧ isB D (nS D) ch (P1X D a wn kd most m 0 (fun _ => 0)) (h1 54 8) (h1 54 9) (h1 57) ∧ zXf (zup g 54 5 (m : Int)) h1) := by
            have q := (x_sp D hb hst h12 a wn kd most m ch hwn hkd (by omega) (nS D) 0 (fun _ => 0) _ (by omega) hsP (fun _ _ => rfl) (fun j hj => by omega) (by show (0 : Int) ≤ m; omega) hB0).mono (show 4 + nS D ≤ 16 by omega)
            rw [hrow] at q
            exact q
          refine zc_sv4 eX8_byVoters_80 lX8_101 tX8_spread (by decide) (Nat.le_of_ble_eq_true rfl) hspr ?_
          rintro g2 ⟨Hg2, HB2, hx2⟩
          obtain ⟨n1, n2, ⟨n3, n4, n5, n6⟩, n7, n8, n9⟩ := Hg2
          refine z_incN3 eX8_byVoters_83 zn0 (by omega) (by omega) ?_
          refine z_goto eX8_byVoters_86 rfl ?_
          have HBn : isB D (nS D) ch (fun q => uR D a wn kd most q ∧ totR q (nS D) < ((m + 1 : Nat) : Int)) (g2 54 8) (g2 54 9) (g2 57) := by
            refine isB_iff (P := P1X D a wn kd most m 0 (fun _ => 0)) (fun q => ⟨fun z => ⟨z.1, ?_⟩, fun z => ⟨z.1, ?_⟩⟩) HB2
            · have := z.2
              by_cases e : totR q (nS D) < m
              · exact Or.inl e
              · exact Or.inr ⟨by omega, Or.inr agr_0⟩
            · rcases z.2 with y | y
              · omega
              · have := y.1; omega
          exact ih (r - 1) (by omega) (m + 1) g2 (by omega) n1 n2 ⟨n3, n4, n5⟩ (fun j hj => n7 j hj (by omega)) (fun j hj => by rw [n8 j hj (by omega)]; show _ + (0 : Int) = _; omega) (hXs.tr hx2) HBn
theorem x_bv (D : Nat → Int) (hb : dB D) (hst : D 2 < ((2 ^ nN D : Nat) : Int)) (h12 : nS D ≤ 12) (a wn kd most ch : Int) (ha : 0 ≤ a ∧ a < D 0) (hwn : wn = 0 ∨ wn = 1) (hkd : kd = 4 ∨ kd = 8 ∨ kd = 12) (hmo : 0 ≤ most ∧ most ≤ 5) (h : zHp) (H : rHR h) (hD : h 122 = D) (k2 : h 54 2 = a) (k3 : h 54 3 = wn) (k4 : h 54 4 = kd) (k8 : h 54 8 = -1) : zCi mX8_byVoters 17 [zA 54, zI most, zI ch] h (fun v h' => (if 0 ≤ h' 54 8 then 1 else 0) = v ∧ isB D (nS D) ch (uR D a wn kd most) (h' 54 8) (h' 54 9) (h' 57) ∧ zXf h h') := by
  refine z_enter [zA 54, zI most, zI ch, zU] (by decide +kernel) (Nat.le_of_ble_eq_true rfl) rfl (fun hra hrg => ?_)
  obtain ⟨⟨-, -, e0, e1, e7, ek, es, eo, hp⟩, hru⟩ : hallR h 4 D (h 123) ∧ ruleR h 24 D := by rw [← hD]; exact H
  have hN8 := nN_le hb
  have hN := nN_eq hb
  have hb2 := hb.2.2.1
  have hS20 := nS_le hb
  refine z_al0 eX8_byVoters_0 ?_
  refine z_gi eX8_byVoters_1 fX8_33 zs54 ?_
  rw [k3]
  refine z_ieq eX8_byVoters_4 rfl (fun c4 => ?_) (fun c4 => ?_)
  · refine z_al0 eX8_byVoters_26 ?_
    refine z_ga eX8_byVoters_27 fX8_9 zs54 (t := 55) rfl ?_
    refine z_ki eX8_byVoters_30 ?_
    refine zc_sv2 eX8_byVoters_31 lX8_86 tJ7_fill_53178 (by decide) (Nat.le_of_ble_eq_true rfl) (j_fill _ 55 12 0 rfl (by decide)) ?_
    rintro _ rfl
    refine z_al0 eX8_byVoters_34 ?_
    refine z_ga eX8_byVoters_35 fX8_21 zs54 (t := 4) rfl ?_
    refine z_ga eX8_byVoters_38 fX8_65 zs4 (t := 9) rfl ?_
    refine z_ki eX8_byVoters_41 ?_
    refine z_al0 eX8_byVoters_42 ?_
    refine z_ga eX8_byVoters_43 fX8_15 zs54 (t := 56) rfl ?_
    refine z_ki eX8_byVoters_46 ?_
    refine z_ki eX8_byVoters_47 ?_
    refine zy_i eX8_byVoters_49 lX8_92 (Or.inl rfl) zs9 zs56 (by decide) (by decide) (by decide) (by decide) (by decide) (by decide) (Nat.le_of_ble_eq_true rfl) ?_
    refine z_ki eX8_byVoters_52 ?_
    refine z_is3 eX8_byVoters_53 zn0 ?_
    have hx1 : zXf h (zcp (zfill h 55 12 0) 9 0 56 0 20) := ((zXf.rf.fr (c := 55) (fun c hc => zfill_off hc) (by decide) (fun _ => rfl)).fr (c := 56) (fun c hc => zcp_off hc) (by decide) (fun _ => rfl))
    refine x_bv_l D hb hst h12 a wn kd most ch ha hwn hkd hmo h (most + 1).toNat 0 (zcp (zfill h 55 12 0) 9 0 56 0 20) (by omega) (H.xf hx1) ((hx1.2.1 122 (by omega)).trans hD) ?_ (fun j hj => ?_) (fun j hj => ?_) hx1 ?_
    · rw [zcp_off (by decide), zfill_off (by decide)]; exact ⟨k2, k3, k4⟩
    · rw [zcp_off (by decide), zfill_on hj]
    · rw [zcp_on (by omega), zfill_off (by decide)]; exact (es j hj).1
    · rw [zcp_off (by decide), zcp_off (by decide), zfill_off (by decide), zfill_off (by decide)]
      exact isB_0 k8 (fun q hq => by have := totR_nn q (nS D); have := hq.2; omega)
  · refine z_al0 eX8_byVoters_7 ?_
    refine z_ga eX8_byVoters_8 fX8_21 zs54 (t := 4) rfl ?_
    refine z_gi eX8_byVoters_11 fX8_49 zs4 ?_
    refine z_al0 eX8_byVoters_14 ?_
    refine z_gi eX8_byVoters_15 fX8_29 zs54 ?_
    rw [k2]
    refine z_ishr eX8_byVoters_18 ?_
    refine z_ki eX8_byVoters_19 ?_
    refine z_iand eX8_byVoters_20 ?_
    rw [zbit (by omega) (by omega) (by omega) (by omega), e1]
    refine z_ine eX8_byVoters_21 rfl (fun c21 => ?_) (fun c21 => ?_)
    · refine z_al0 eX8_byVoters_26 ?_
      refine z_ga eX8_byVoters_27 fX8_9 zs54 (t := 55) rfl ?_
      refine z_ki eX8_byVoters_30 ?_
      refine zc_sv2 eX8_byVoters_31 lX8_86 tJ7_fill_53178 (by decide) (Nat.le_of_ble_eq_true rfl) (j_fill _ 55 12 0 rfl (by decide)) ?_
      rintro _ rfl
      refine z_al0 eX8_byVoters_34 ?_
      refine z_ga eX8_byVoters_35 fX8_21 zs54 (t := 4) rfl ?_
      refine z_ga eX8_byVoters_38 fX8_65 zs4 (t := 9) rfl ?_
      refine z_ki eX8_byVoters_41 ?_
      refine z_al0 eX8_byVoters_42 ?_
      refine z_ga eX8_byVoters_43 fX8_15 zs54 (t := 56) rfl ?_
      refine z_ki eX8_byVoters_46 ?_
      refine z_ki eX8_byVoters_47 ?_
      refine zy_i eX8_byVoters_49 lX8_92 (Or.inl rfl) zs9 zs56 (by decide) (by decide) (by decide) (by decide) (by decide) (by decide) (Nat.le_of_ble_eq_true rfl) ?_
      refine z_ki eX8_byVoters_52 ?_
      refine z_is3 eX8_byVoters_53 zn0 ?_
      have hx1 : zXf h (zcp (zfill h 55 12 0) 9 0 56 0 20) := ((zXf.rf.fr (c := 55) (fun c hc => zfill_off hc) (by decide) (fun _ => rfl)).fr (c := 56) (fun c hc => zcp_off hc) (by decide) (fun _ => rfl))
      refine x_bv_l D hb hst h12 a wn kd most ch ha hwn hkd hmo h (most + 1).toNat 0 (zcp (zfill h 55 12 0) 9 0 56 0 20) (by omega) (H.xf hx1) ((hx1.2.1 122 (by omega)).trans hD) ?_ (fun j hj => ?_) (fun j hj => ?_) hx1 ?_
      · rw [zcp_off (by decide), zfill_off (by decide)]; exact ⟨k2, k3, k4⟩
      · rw [zcp_off (by decide), zfill_on hj]
      · rw [zcp_on (by omega), zfill_off (by decide)]; exact (es j hj).1
      · rw [zcp_off (by decide), zcp_off (by decide), zfill_off (by decide), zfill_off (by decide)]
        exact isB_0 k8 (fun q hq => by have := totR_nn q (nS D); have := hq.2; omega)
    · refine z_ki eX8_byVoters_24 ?_
      refine ze_z eX8_byVoters_25 rfl (by first | exact Or.inl rfl | exact Or.inr rfl) ?_
      refine ⟨if_neg (by omega), isB_0 k8 (fun q hq => ?_), zXf.rf⟩
      have z := hq.2.2
      unfold aimR aimQ at z
      have e : winW D (wR D q) (D 2).toNat = a := by omega
      have t := winW_in (D := D) (w := wR D q) (set := (D 2).toNat) (by omega)
      rw [e] at t
      have f := bv_F c21
      rw [f] at t
      cases t
theorem r_findP (D : Nat → Int) (hb : dB D) (hst : D 2 < ((2 ^ nN D : Nat) : Int)) (h12 : nS D ≤ 12) (a wn kd most ch : Int) (hkd : kd = 4 ∨ kd = 8 ∨ kd = 12) (hmo : 0 ≤ most ∧ most ≤ 5) (h : zHp) (hD : h 122 = D) (k1 : h 117 58 = a) (k2 : h 117 56 = wn) (k3 : h 117 57 = ch) (k4 : h 117 59 = kd) (k5 : h 117 60 = most) : zCv mX12_findPeople 21 [zA 117] h (fun h' => isB D (nS D) ch (uR D a wn kd most) (h' 117 46) (h' 117 47) (h' 137) ∧ zMf h h' ∧ h' 122 = D) := by
  refine z_enter [zA 117] (by decide +kernel) (Nat.le_of_ble_eq_true rfl) rfl (fun hra hrg => ?_)
  have D1 : zup h 117 46 (-1) 122 = D := (zup_off (by decide)).trans hD
  have hmf : zMf h (cA (zup h 117 46 (-1)) D (nS D) (allV D)) := (zMf.rf.up (by omega) (by omega) rfl).cA _ _ _
  have hmp : mP D a wn kd most ch 0 0 (fun _ => 0) (cA (zup h 117 46 (-1)) D (nS D) (allV D)) := by
    refine ⟨(cA_off (by decide) (by decide)).trans D1, ?_, fun j hj => by omega, fun j _ hj => cA_v hj⟩
    rw [cA_f (by decide), cA_f (by decide), cA_f (by decide), cA_f (by decide), cA_f (by decide), zup_ne (by decide), zup_ne (by decide), zup_ne (by decide), zup_ne (by decide), zup_ne (by decide)]
    exact ⟨k1, k2, k3, k4, k5⟩
  have hB0 : isB D (nS D) ch (P0M D a wn kd most 0 (fun _ => 0)) (cA (zup h 117 46 (-1)) D (nS D) (allV D) 117 46) (cA (zup h 117 46 (-1)) D (nS D) (allV D) 117 47) (cA (zup h 117 46 (-1)) D (nS D) (allV D) 137) := isB_0 (by rw [cA_f (by decide), zup_at]) (fun q hq => no_ltx0 hq.2)
  refine z_al0 eX12_findPeople_0 ?_
  refine z_ki eX12_findPeople_1 ?_
  refine z_pi eX12_findPeople_2 pX12_354 zs117 ?_
  refine z_al0 eX12_findPeople_5 ?_
  refine zc_vv0 eX12_findPeople_6 lX12_320 tX12_countAll zs117 (by decide) (Nat.le_of_ble_eq_true rfl) (r_countAll _ _ D1 hb) ?_
  rintro _ rfl
  refine z_al0 eX12_findPeople_9 ?_
  refine z_ki eX12_findPeople_10 ?_
  refine z_ki eX12_findPeople_11 ?_
  refine z_ki eX12_findPeople_12 ?_
  refine zc_vv3 eX12_findPeople_13 lX12_386 tX12_movePeople zs117 (by decide) (Nat.le_of_ble_eq_true rfl) ((r_mp D hb hst h12 a wn kd most ch hkd hmo (nS D) 0 (fun _ => 0) _ (by omega) hmp (fun j hj => by omega) (by show (0 : Int) ≤ most; omega) hB0).mono (show 8 + nS D ≤ 20 by omega)) ?_
  rintro g2 ⟨Hg2, HB2, hm2⟩
  refine ze_v eX12_findPeople_16 rfl ?_
  exact ⟨isB_iff (fun q => ⟨fun z => ⟨z, Or.inr agr_0⟩, fun z => z.1⟩) HB2, hmf.tr hm2, Hg2.1⟩
def cPe (D : Nat → Int) (a kd mo : Int) : Int := if 0 ≤ a ∧ a < D 0 then (if (kd = 4 ∨ kd = 8 ∨ kd = 12) ∧ (0 ≤ mo ∧ mo ≤ 5) then (if 12 < D 1 then 7 else 0) else 5) else 2
def qPe (n : Int) : Int × Int := if n < 0 then (-1, 9) else (n, 0)
theorem x_keepV (h : zHp) (n : Int) : zCv mX4_keepVoters 1 [zA 58, zA 54, zI n] h (fun h' => zcp (zup (zup (zup h 58 0 2) 58 1 (h 54 9)) 58 3 (min n 12)) 57 0 59 0 12 = h') := by
  refine z_enter [zA 58, zA 54, zI n] (by decide +kernel) (Nat.le_of_ble_eq_true rfl) rfl (fun hra hrg => ?_)
  refine z_al0 eX4_keepVoters_0 ?_
  refine z_ki eX4_keepVoters_1 ?_
  refine z_pi eX4_keepVoters_2 pX4_11 zs58 ?_
  refine z_al0 eX4_keepVoters_5 ?_
  refine z_al1 eX4_keepVoters_6 ?_
  refine z_gi eX4_keepVoters_7 fX4_19 zs54 ?_
  rw [zup_off (by decide)]
  refine z_pi eX4_keepVoters_10 pX4_24 zs58 ?_
  refine z_al0 eX4_keepVoters_13 ?_
  refine z_il2 eX4_keepVoters_14 ?_
  refine z_ki eX4_keepVoters_15 ?_
  refine z_min eX4_keepVoters_17 lX4_29 (by decide) (Nat.le_of_ble_eq_true rfl) ?_
  refine z_pi eX4_keepVoters_20 pX4_35 zs58 ?_
  refine z_al1 eX4_keepVoters_23 ?_
  refine z_ga eX4_keepVoters_24 fX4_38 zs54 (t := 57) rfl ?_
  refine z_ki eX4_keepVoters_27 ?_
  refine z_al0 eX4_keepVoters_28 ?_
  refine z_ga eX4_keepVoters_29 fX4_15 zs58 (t := 59) rfl ?_
  refine z_ki eX4_keepVoters_32 ?_
  refine z_ki eX4_keepVoters_33 ?_
  refine zy_i eX4_keepVoters_35 lX4_39 (Or.inl rfl) zs57 zs59 (by decide) (by decide) (by decide) (by decide) (by decide) (by decide) (Nat.le_of_ble_eq_true rfl) ?_
  refine ze_v eX4_keepVoters_38 rfl ?_
  rfl
theorem x_people (h : zHp) (H : rHR h) (a wn kd mo ch : Int) (hwn : wn = 0 ∨ wn = 1) : zCi mX11_people 18 [zA 0, zI a, zI wn, zI kd, zI mo, zI ch] h (fun v h' => (cPe (h 122) a kd mo = 0 → ∃ (n c : Int) (r : Nat → Int), isB (h 122) (nS (h 122)) ch (uR (h 122) a wn kd mo) n c r ∧ pX3 h (qPe n) (fun f => f 58 0 = 2 ∧ f 58 1 = c ∧ f 58 3 = h 122 1 ∧ ∀ j : Nat, j < nS (h 122) → f 59 j = r j) v h') ∧ (¬ cPe (h 122) a kd mo = 0 → pX0 h (-1, cPe (h 122) a kd mo) v h')) := by
  refine z_enter [zA 0, zI a, zI wn, zI kd, zI mo, zI ch] (by decide +kernel) (Nat.le_of_ble_eq_true rfl) rfl (fun hra hrg => ?_)
  obtain ⟨⟨hb, hst, e0, e1, e7, ek, es, eo, hp⟩, hru⟩ := id H
  have hN := nN_eq hb
  have hS := nS_eq hb
  have hN8 := nN_le hb
  have hS20 := nS_le hb
  have hb2 := hb.2.2.1
  refine z_al0 eX11_people_0 ?_
  refine z_il1 eX11_people_1 ?_
  refine zc_vi1 eX11_people_2 lX11_224 tX11_isName zs0 (by decide) (Nat.le_of_ble_eq_true rfl) (x_isName _ H _) ?_
  rintro _ _ ⟨rfl, rfl⟩ -
  refine z_ine eX11_people_5 rfl (fun c5 => ?_) (fun c5 => ?_)
  · have z5 := iteT c5
    refine z_il3 eX11_people_14 ?_
    refine zc_si1 eX11_people_15 lX11_302 tX11_isOfVoters (by decide) (Nat.le_of_ble_eq_true rfl) (x_isOfVoters _ _) ?_
    rintro _ _ ⟨rfl, rfl⟩ -
    refine z_ieq eX11_people_18 rfl (fun c18 => ?_) (fun c18 => ?_)
    · have z18 := iteF c18
      refine z_al0 eX11_people_32 ?_
      refine z_ki eX11_people_33 ?_
      refine zc_vi1 eX11_people_34 lX11_153 tX11_fail zs0 (by decide) (Nat.le_of_ble_eq_true rfl) (x_fail _ _) ?_
      rintro _ _ ⟨rfl, rfl⟩ -
      refine ze_i eX11_people_37 rfl ?_
      have ec : cPe (h 122) a kd mo = 5 := by unfold cPe; rw [if_pos z5, if_neg (fun z => z18 z.1)]
      exact ⟨fun q => by omega, fun _ => pX0_f zXf.rf (by rw [ec])⟩
    · have z18 := iteT c18
      refine z_il4 eX11_people_21 ?_
      refine z_ilt eX11_people_23 rfl (fun c23 => ?_) (fun c23 => ?_)
      · refine z_al0 eX11_people_32 ?_
        refine z_ki eX11_people_33 ?_
        refine zc_vi1 eX11_people_34 lX11_153 tX11_fail zs0 (by decide) (Nat.le_of_ble_eq_true rfl) (x_fail _ _) ?_
        rintro _ _ ⟨rfl, rfl⟩ -
        refine ze_i eX11_people_37 rfl ?_
        have ec : cPe (h 122) a kd mo = 5 := by unfold cPe; rw [if_pos z5, if_neg (by omega)]
        exact ⟨fun q => by omega, fun _ => pX0_f zXf.rf (by rw [ec])⟩
      · refine z_il4 eX11_people_26 ?_
        refine z_ki eX11_people_28 ?_
        refine z_cle eX11_people_29 rfl (fun c29 => ?_) (fun c29 => ?_)
        · refine z_al0 eX11_people_38 ?_
          refine z_ga eX11_people_39 fX11_25 zs0 (t := 4) rfl ?_
          refine z_gi eX11_people_42 fX11_123 zs4 ?_
          refine z_ki eX11_people_45 ?_
          refine z_cle eX11_people_47 rfl (fun c47 => ?_) (fun c47 => ?_)
          · have ec : cPe (h 122) a kd mo = 0 := by unfold cPe; rw [if_pos z5, if_pos ⟨z18, by omega⟩, if_neg (by omega)]
            refine z_al0 eX11_people_57 ?_
            refine z_ga eX11_people_58 fX11_74 zs0 (t := 54) rfl ?_
            refine z_il1 eX11_people_61 ?_
            refine z_il2 eX11_people_62 ?_
            refine z_il3 eX11_people_63 ?_
            refine zc_vv3 eX11_people_64 lX11_287 tX8_aim zs54 (by decide) (Nat.le_of_ble_eq_true rfl) (x_aim _ a wn kd hwn) ?_
            rintro g rfl
            have hg : zXf h (zup (zup (zup (zup h 54 2 a) 54 3 wn) 54 4 kd) 54 8 (-1)) := (((zXf.rf.up (by omega) (by omega) rfl).up (by omega) (by omega) rfl).up (by omega) (by omega) rfl).up (by omega) (by omega) rfl
            have Hg := H.xf hg
            have e122 : zup (zup (zup (zup h 54 2 a) 54 3 wn) 54 4 kd) 54 8 (-1) 122 = h 122 := hg.2.1 122 (by omega)
            refine z_al0 eX11_people_67 ?_
            refine z_ga eX11_people_68 fX11_74 zs0 (t := 54) rfl ?_
            refine z_il4 eX11_people_71 ?_
            refine z_il5 eX11_people_73 ?_
            refine zc_vi2 eX11_people_75 lX11_305 tX8_byVoters zs54 (by decide) (Nat.le_of_ble_eq_true rfl) (x_bv (h 122) hb hst (by omega) a wn kd mo ch z5 hwn z18 (by omega) _ Hg e122 (by rw [zup_ne (by decide), zup_ne (by decide), zup_ne (by decide), zup_at]) (by rw [zup_ne (by decide), zup_ne (by decide), zup_at]) (by rw [zup_ne (by decide), zup_at]) (zup_at _ _ _ _)) ?_
            rintro _ g2 ⟨rfl, HB, hg2⟩ -
            have hx2 := hg.tr hg2
            refine z_ine eX11_people_78 rfl (fun c78 => ?_) (fun c78 => ?_)
            · have z78 := iteT c78
              refine z_al0 eX11_people_88 ?_
              refine z_ga eX11_people_89 fX11_81 zs0 (t := 58) rfl ?_
              refine z_al0 eX11_people_92 ?_
              refine z_ga eX11_people_93 fX11_74 zs0 (t := 54) rfl ?_
              refine z_al0 eX11_people_96 ?_
              refine z_ga eX11_people_97 fX11_25 zs0 (t := 4) rfl ?_
              refine z_gi eX11_people_100 fX11_123 zs4 ?_
              rw [show g2 4 7 = h 122 1 by rw [hx2.1 5 (by omega) (by omega) (by simp) 4 7 rfl]; exact e7]
              refine zc_vv2 eX11_people_103 lX11_309 tX4_keepVoters zs58 (by decide) (Nat.le_of_ble_eq_true rfl) (x_keepV _ _) ?_
              rintro _ rfl
              refine z_al0 eX11_people_106 ?_
              refine z_al0 eX11_people_107 ?_
              refine z_ga eX11_people_108 fX11_74 zs0 (t := 54) rfl ?_
              refine z_gi eX11_people_111 fX11_299 zs54 ?_
              rw [zcp_off (by decide), zup_off (by decide), zup_off (by decide), zup_off (by decide)]
              refine zc_vi1 eX11_people_114 lX11_202 tX11_answer zs0 (by decide) (Nat.le_of_ble_eq_true rfl) (x_answer _ _) ?_
              rintro _ _ ⟨rfl, rfl⟩ -
              refine ze_i eX11_people_117 rfl ?_
              refine ⟨fun _ => ⟨_, _, _, HB, ?_⟩, fun q => absurd ec q⟩
              rw [show qPe (g2 54 8) = (g2 54 8, 0) from if_neg (by omega)]
              refine ⟨rfl, zup_at _ _ _ _, fun b hb2 => by rw [zup_off (by omega), zcp_off (by omega), zup_off (by omega), zup_off (by omega), zup_off (by omega)]; exact hx2.2.1 b hb2, fun _ => ⟨?_, ?_, ?_, ?_, fun j hj => ?_⟩, fun q => absurd rfl q⟩
              · refine zEx.up (zEx.cp (zEx.up (zEx.up (zEx.up (hx2.1.wk (by simp)) (Or.inr (show 3 ∈ [3] by decide))) (Or.inr (show 3 ∈ [3] by decide))) (Or.inr (show 3 ∈ [3] by decide))) ?_) (Or.inl rfl)
                intro i _ _
                exact Or.inr (show 3 ∈ [3] by decide)
              · rw [zup_off (by decide), zcp_off (by decide), zup_ne (by decide), zup_ne (by decide), zup_at]
              · rw [zup_off (by decide), zcp_off (by decide), zup_ne (by decide), zup_at]
              · rw [zup_off (by decide), zcp_off (by decide), zup_at]; omega
              · rw [zup_off (by decide), zcp_on (by omega), zup_off (by decide), zup_off (by decide), zup_off (by decide)]
            · have z78 := iteF c78
              refine z_al0 eX11_people_81 ?_
              refine z_ki eX11_people_82 ?_
              refine zc_vi1 eX11_people_84 lX11_153 tX11_fail zs0 (by decide) (Nat.le_of_ble_eq_true rfl) (x_fail _ _) ?_
              rintro _ _ ⟨rfl, rfl⟩ -
              refine ze_i eX11_people_87 rfl ?_
              refine ⟨fun _ => ⟨_, _, _, HB, ?_⟩, fun q => absurd ec q⟩
              exact pX3_no hx2 (by unfold qPe; rw [if_pos (by omega)]) (by decide)
          · refine z_al0 eX11_people_50 ?_
            refine z_ki eX11_people_51 ?_
            refine zc_vi1 eX11_people_53 lX11_153 tX11_fail zs0 (by decide) (Nat.le_of_ble_eq_true rfl) (x_fail _ _) ?_
            rintro _ _ ⟨rfl, rfl⟩ -
            refine ze_i eX11_people_56 rfl ?_
            have ec : cPe (h 122) a kd mo = 7 := by unfold cPe; rw [if_pos z5, if_pos ⟨z18, by omega⟩, if_pos (by omega)]
            exact ⟨fun q => by omega, fun _ => pX0_f zXf.rf (by rw [ec])⟩
        · refine z_al0 eX11_people_32 ?_
          refine z_ki eX11_people_33 ?_
          refine zc_vi1 eX11_people_34 lX11_153 tX11_fail zs0 (by decide) (Nat.le_of_ble_eq_true rfl) (x_fail _ _) ?_
          rintro _ _ ⟨rfl, rfl⟩ -
          refine ze_i eX11_people_37 rfl ?_
          have ec : cPe (h 122) a kd mo = 5 := by unfold cPe; rw [if_pos z5, if_neg (by omega)]
          exact ⟨fun q => by omega, fun _ => pX0_f zXf.rf (by rw [ec])⟩
  · have z5 := iteF c5
    refine z_al0 eX11_people_8 ?_
    refine z_ki eX11_people_9 ?_
    refine zc_vi1 eX11_people_10 lX11_153 tX11_fail zs0 (by decide) (Nat.le_of_ble_eq_true rfl) (x_fail _ _) ?_
    rintro _ _ ⟨rfl, rfl⟩ -
    refine ze_i eX11_people_13 rfl ?_
    have ec : cPe (h 122) a kd mo = 2 := by unfold cPe; rw [if_neg z5]
    exact ⟨fun q => by omega, fun _ => pX0_f zXf.rf (by rw [ec])⟩
theorem r_pe_l (g : zHp) (n : Nat) (hn : n ≤ 20) (h51 : g 117 51 = (n : Int)) (x1 x2 x3 x4 x5 : Int) (Q : Int → zHp → Prop) (hQ : ∀ f, zFr 138 g f → (∀ j : Nat, j < n → f 138 j = g 137 j) → Q (g 117 46) f) : ∀ (r k : Nat) (f : zHp), k + r = n → zFr 138 g f → (∀ j : Nat, j < k → f 138 j = g 137 j) → zRW mX12_people 22 (0, 0) 123 [zA 117, zI x1, zI x2, zI x3, zI x4, zI x5, zI k] [] 143 f (zqi Q) := by
  intro r
  induction r using Nat.strongRecOn with
  | ind r ih =>
    intro k f hk hfr hj
    have f51 : f 117 51 = (n : Int) := by rw [hfr 117 (by decide)]; exact h51
    refine z_il6 eX12_people_123 ?_
    refine z_al0 eX12_people_125 ?_
    refine z_gi eX12_people_126 fX12_414 zs117 ?_
    refine z_cge eX12_people_129 rfl (fun c129 => ?_) (fun c129 => ?_)
    · refine z_al0 eX12_people_152 ?_
      refine z_gi eX12_people_153 fX12_354 zs117 ?_
      rw [hfr 117 (by decide)]
      refine ze_i eX12_people_156 rfl ?_
      have e : k = n := by omega
      subst e
      exact hQ f hfr hj
    · refine z_al0 eX12_people_132 ?_
      refine z_ga eX12_people_133 fX12_83 zs117 (t := 138) rfl ?_
      refine z_il6 eX12_people_136 ?_
      refine z_al0 eX12_people_138 ?_
      refine z_ga eX12_people_139 fX12_80 zs117 (t := 137) rfl ?_
      refine z_il6 eX12_people_142 ?_
      refine zr_iN eX12_people_144 zs137 (j := k) (by omega) (by omega) ?_
      rw [hfr 137 (by decide)]
      refine zs_iN eX12_people_145 zs138 (j := k) (by omega) (by omega) ?_
      refine z_incN6 eX12_people_146 zn0 (by omega) (by omega) ?_
      refine z_goto eX12_people_149 rfl ?_
      refine ih (r - 1) (by omega) (k + 1) _ (by omega) (hfr.up _ _) (fun j hj2 => ?_)
      by_cases e : j = k
      · subst e; exact zup_at _ _ _ _
      · rw [zup_ne (by omega)]; exact hj j (by omega)
theorem r_people (h : zHp) (D : Nat → Int) (hD : h 122 = D) (hb : dB D) (hst : D 2 < ((2 ^ nN D : Nat) : Int)) (a wn kd mo ch : Int) (hwn : wn = 0 ∨ wn = 1) (hch : ch = 0 ∨ ch = 1) : zCi mX12_people 22 [zA 117, zI a, zI wn, zI kd, zI mo, zI ch] h (fun v h' => (cPe D a kd mo = 0 → ∃ (n c : Int) (r : Nat → Int), isB D (nS D) ch (uR D a wn kd mo) n c r ∧ pM3 h (qPe n) (fun f => f 117 52 = 2 ∧ f 117 49 = c ∧ f 117 51 = D 1 ∧ ∀ j : Nat, j < nS D → f 138 j = r j) v h') ∧ (¬ cPe D a kd mo = 0 → pM0 h (-1, cPe D a kd mo) v h')) := by
  refine z_enter [zA 117, zI a, zI wn, zI kd, zI mo, zI ch, zU] (by decide +kernel) (Nat.le_of_ble_eq_true rfl) rfl (fun hra hrg => ?_)
  refine z_al0 eX12_people_0 ?_
  refine z_ki eX12_people_1 ?_
  refine z_pi eX12_people_2 pX12_98 zs117 ?_
  refine z_al0 eX12_people_5 ?_
  refine z_ki eX12_people_6 ?_
  refine z_pi eX12_people_7 pX12_101 zs117 ?_
  generalize hg : zup (zup h 117 1 0) 117 0 0 = g
  obtain ⟨ga, gf, g0⟩ := m_g hg
  have gD : g 122 = D := (ga 122 (by decide)).trans hD
  subst gD
  have hN := nN_eq hb
  have hS := nS_eq hb
  have hN8 := nN_le hb
  have hS20 := nS_le hb
  have hb2 := hb.2.2.1
  refine z_al0 eX12_people_10 ?_
  refine z_il1 eX12_people_11 ?_
  refine zc_vi1 eX12_people_12 lX12_278 tX12_isName zs117 (by decide) (Nat.le_of_ble_eq_true rfl) (r_isName _ _ rfl hb _) ?_
  rintro _ _ ⟨rfl, rfl⟩ -
  refine z_ine eX12_people_15 rfl (fun c15 => ?_) (fun c15 => ?_)
  · have z15 := iteT c15
    refine z_il3 eX12_people_24 ?_
    refine zc_si1 eX12_people_25 lX12_406 tX12_isPeople (by decide) (Nat.le_of_ble_eq_true rfl) (r_isPeople _ _) ?_
    rintro _ _ ⟨rfl, rfl⟩ -
    refine z_ieq eX12_people_28 rfl (fun c28 => ?_) (fun c28 => ?_)
    · have z28 := iteF c28
      refine z_al0 eX12_people_44 ?_
      refine z_ki eX12_people_45 ?_
      refine zc_vi1 eX12_people_46 lX12_275 tX12_refuse zs117 (by decide) (Nat.le_of_ble_eq_true rfl) (r_refuse _ _) ?_
      rintro _ _ ⟨rfl, rfl⟩ -
      refine ze_i eX12_people_49 rfl ?_
      have ec : cPe (g 122) a kd mo = 5 := by unfold cPe; rw [if_pos z15, if_neg (fun z => z28 z.1)]
      exact ⟨fun q => by omega, fun _ => pM0_fr hg zMf.rf (by rw [ec])⟩
    · have z28 := iteT c28
      refine z_il4 eX12_people_31 ?_
      refine z_i2l eX12_people_33 ?_
      refine z_kj eX12_people_34 ?_
      refine z_kj eX12_people_35 ?_
      refine zc_si3 eX12_people_38 lX12_133 tX12_isIn (by decide) (Nat.le_of_ble_eq_true rfl) (r_isIn _ _ _ _) ?_
      rintro _ _ ⟨rfl, rfl⟩ -
      refine z_ine eX12_people_41 rfl (fun c41 => ?_) (fun c41 => ?_)
      · have z41 := iteT c41
        refine z_al0 eX12_people_50 ?_
        refine z_ga eX12_people_51 fX12_35 zs117 (t := 122) rfl ?_
        refine z_ki eX12_people_54 ?_
        refine zr_iN eX12_people_55 zs122 (j := 1) (by omega) (by omega) ?_
        refine z_ki eX12_people_56 ?_
        refine z_cle eX12_people_58 rfl (fun c58 => ?_) (fun c58 => ?_)
        · have ec : cPe (g 122) a kd mo = 0 := by unfold cPe; rw [if_pos z15, if_pos ⟨z28, z41⟩, if_neg (by omega)]
          refine z_al0 eX12_people_68 ?_
          refine z_il1 eX12_people_69 ?_
          refine z_il2 eX12_people_70 ?_
          refine z_il3 eX12_people_71 ?_
          refine z_il4 eX12_people_72 ?_
          refine z_il5 eX12_people_74 ?_
          refine zc_vv5 eX12_people_76 lX12_390 tX12_aim zs117 (by decide) (Nat.le_of_ble_eq_true rfl) (r_aim _ a wn kd mo ch hwn hch) ?_
          rintro _ rfl
          have hma : zMf g (zup (zup (zup (zup (zup g 117 58 a) 117 56 wn) 117 59 kd) 117 60 mo) 117 57 ch) := ((((zMf.rf.up (by omega) (by omega) rfl).up (by omega) (by omega) rfl).up (by omega) (by omega) rfl).up (by omega) (by omega) rfl).up (by omega) (by omega) rfl
          refine z_al0 eX12_people_79 ?_
          refine zc_vv0 eX12_people_80 lX12_411 tX12_findPeople zs117 (by decide) (Nat.le_of_ble_eq_true rfl) (r_findP (g 122) hb hst (by omega) a wn kd mo ch z28 z41 _ (by rw [zup_off (by decide), zup_off (by decide), zup_off (by decide), zup_off (by decide), zup_off (by decide)]) (by rw [zup_ne (by decide), zup_ne (by decide), zup_ne (by decide), zup_ne (by decide), zup_at]) (by rw [zup_ne (by decide), zup_ne (by decide), zup_ne (by decide), zup_at]) (zup_at _ _ _ _) (by rw [zup_ne (by decide), zup_ne (by decide), zup_at]) (by rw [zup_ne (by decide), zup_at])) ?_
          rintro g2 ⟨HB, hmf, hd2⟩
          have hm2 := hma.tr hmf
          refine z_al0 eX12_people_83 ?_
          refine z_gi eX12_people_84 fX12_354 zs117 ?_
          refine z_ige eX12_people_87 rfl (fun c87 => ?_) (fun c87 => ?_)
          · refine z_al0 eX12_people_97 ?_
            refine z_ki eX12_people_98 ?_
            refine z_pi eX12_people_99 pX12_397 zs117 ?_
            refine z_al0 eX12_people_102 ?_
            refine z_al0 eX12_people_103 ?_
            refine z_gi eX12_people_104 fX12_360 zs117 ?_
            rw [zup_ne (by decide)]
            refine z_pi eX12_people_107 pX12_400 zs117 ?_
            refine z_al0 eX12_people_110 ?_
            refine z_al0 eX12_people_111 ?_
            refine z_ga eX12_people_112 fX12_35 zs117 (t := 122) rfl ?_
            refine z_ki eX12_people_115 ?_
            refine zr_iN eX12_people_116 zs122 (j := 1) (by omega) (by omega) ?_
            rw [zup_off (by decide), zup_off (by decide), hd2, hS]
            refine z_pi eX12_people_117 pX12_414 zs117 ?_
            refine z_ki eX12_people_120 ?_
            refine z_is6 eX12_people_121 zn0 ?_
            refine r_pe_l _ (nS (g 122)) hS20 (zup_at _ _ _ _) _ _ _ _ _ _ (fun f hfr hj => ?_) (nS (g 122)) 0 _ (Nat.zero_add _) zFr.rf (fun j hj => by omega)
            have r0 := pM0_f (q := ((0 : Int), (0 : Int))) hg hm2 rfl
            refine ⟨fun _ => ⟨_, _, _, HB, ?_⟩, fun q => absurd ec q⟩
            rw [show qPe (g2 117 46) = (g2 117 46, 0) from if_neg (by omega)]
            refine ⟨by rw [zup_ne (by decide), zup_ne (by decide), zup_ne (by decide)], by rw [hfr 117 (by decide), zup_ne (by decide), zup_ne (by decide), zup_ne (by decide)]; exact r0.2.1, fun b hb2 => by rw [hfr b (by omega), zup_off (by omega), zup_off (by omega), zup_off (by omega)]; exact r0.2.2.1 b hb2, fun _ => ⟨?_, ?_, ?_, ?_, fun j hj2 => ?_⟩, fun q => absurd rfl q⟩
            · refine zEx.fr (c := 138) (zEx.up (zEx.up (zEx.up (r0.2.2.2.wk (by simp)) ?_) ?_) ?_) (fun i => ?_) hfr
              · exact Or.inr (show 3 ∈ [3] by decide)
              · exact Or.inr (show 3 ∈ [3] by decide)
              · exact Or.inr (show 3 ∈ [3] by decide)
              · exact Or.inr (show 3 ∈ [3] by decide)
            · rw [hfr 117 (by decide), zup_ne (by decide), zup_ne (by decide), zup_at]
            · rw [hfr 117 (by decide), zup_ne (by decide), zup_at]
            · rw [hfr 117 (by decide), zup_at]
            · rw [hj j hj2, zup_off (by decide), zup_off (by decide), zup_off (by decide)]
          · refine z_al0 eX12_people_90 ?_
            refine z_ki eX12_people_91 ?_
            refine zc_vi1 eX12_people_93 lX12_275 tX12_refuse zs117 (by decide) (Nat.le_of_ble_eq_true rfl) (r_refuse _ _) ?_
            rintro _ _ ⟨rfl, rfl⟩ -
            refine ze_i eX12_people_96 rfl ?_
            refine ⟨fun _ => ⟨_, _, _, HB, ?_⟩, fun q => absurd ec q⟩
            exact pM3_no hg hm2 (by unfold qPe; rw [if_pos (by omega)]) (by decide)
        · refine z_al0 eX12_people_61 ?_
          refine z_ki eX12_people_62 ?_
          refine zc_vi1 eX12_people_64 lX12_275 tX12_refuse zs117 (by decide) (Nat.le_of_ble_eq_true rfl) (r_refuse _ _) ?_
          rintro _ _ ⟨rfl, rfl⟩ -
          refine ze_i eX12_people_67 rfl ?_
          have ec : cPe (g 122) a kd mo = 7 := by unfold cPe; rw [if_pos z15, if_pos ⟨z28, z41⟩, if_pos (by omega)]
          exact ⟨fun q => by omega, fun _ => pM0_fr hg zMf.rf (by rw [ec])⟩
      · have z41 := iteF c41
        refine z_al0 eX12_people_44 ?_
        refine z_ki eX12_people_45 ?_
        refine zc_vi1 eX12_people_46 lX12_275 tX12_refuse zs117 (by decide) (Nat.le_of_ble_eq_true rfl) (r_refuse _ _) ?_
        rintro _ _ ⟨rfl, rfl⟩ -
        refine ze_i eX12_people_49 rfl ?_
        have ec : cPe (g 122) a kd mo = 5 := by unfold cPe; rw [if_pos z15, if_neg (fun z => z41 z.2)]
        exact ⟨fun q => by omega, fun _ => pM0_fr hg zMf.rf (by rw [ec])⟩
  · have z15 := iteF c15
    refine z_al0 eX12_people_18 ?_
    refine z_ki eX12_people_19 ?_
    refine zc_vi1 eX12_people_20 lX12_275 tX12_refuse zs117 (by decide) (Nat.le_of_ble_eq_true rfl) (r_refuse _ _) ?_
    rintro _ _ ⟨rfl, rfl⟩ -
    refine ze_i eX12_people_23 rfl ?_
    have ec : cPe (g 122) a kd mo = 2 := by unfold cPe; rw [if_neg z15]
    exact ⟨fun q => by omega, fun _ => pM0_fr hg zMf.rf (by rw [ec])⟩
theorem rel_people {h h1 h2 : zHp} (H : Rel h) {a wn kd mo ch : Int} {v v' : Int}
    (hx : (cPe (h 122) a kd mo = 0 → ∃ (n c : Int) (r : Nat → Int), isB (h 122) (nS (h 122)) ch (uR (h 122) a wn kd mo) n c r ∧ pX3 h (qPe n) (fun f => f 58 0 = 2 ∧ f 58 1 = c ∧ f 58 3 = h 122 1 ∧ ∀ j : Nat, j < nS (h 122) → f 59 j = r j) v h1) ∧ (¬ cPe (h 122) a kd mo = 0 → pX0 h (-1, cPe (h 122) a kd mo) v h1))
    (hm : (cPe (h 122) a kd mo = 0 → ∃ (n c : Int) (r : Nat → Int), isB (h 122) (nS (h 122)) ch (uR (h 122) a wn kd mo) n c r ∧ pM3 h1 (qPe n) (fun f => f 117 52 = 2 ∧ f 117 49 = c ∧ f 117 51 = h 122 1 ∧ ∀ j : Nat, j < nS (h 122) → f 138 j = r j) v' h2) ∧ (¬ cPe (h 122) a kd mo = 0 → pM0 h1 (-1, cPe (h 122) a kd mo) v' h2)) : rOut h v v' h2 := by
  by_cases c0 : cPe (h 122) a kd mo = 0
  · obtain ⟨n, c, r, B1, X⟩ := hx.1 c0
    obtain ⟨n', c', r', B2, M⟩ := hm.1 c0
    obtain ⟨en, er⟩ := isB_one B1 B2
    subst en
    have hb := H.2.2.2.2.2.1.1.1
    have hS := nS_eq hb
    have h12 : h 122 1 ≤ 12 := by
      unfold cPe at c0
      split at c0
      · split at c0
        · split at c0 <;> omega
        · omega
      · omega
    refine rel_3 H X M (fun e ⟨x0, x1, x2, x3⟩ ⟨m0, m1, m2, m3⟩ f => ?_)
    have hn : 0 ≤ n := by
      unfold qPe at e
      split at e
      · exact absurd e (by decide)
      · omega
    obtain ⟨e1, e2⟩ := er hn
    unfold rFound
    rw [f 58 (by omega), f 59 (by omega), x0, x1, x2, m0, m1, m2]
    exact ⟨rfl, Or.inr (Or.inr rfl), fun _ => e1, fun q => absurd q (by decide), fun _ => ⟨rfl, by omega, by omega, fun s hs => by rw [x3 s (by omega), m3 s (by omega), e2 s (by omega)]⟩⟩
  · exact H.tell2 (hx.2 c0) (hm.2 c0)
