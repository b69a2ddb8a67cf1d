-- the class sifts by pairs and by a bar (written by wip/tools/specX3.py)
theorem x_beats_b (D w : Nat → Int) (P : Nat → Nat → Nat) (hb : dB D) (hp : pB D P) (hvb : vB D w) (va : Nat) (hva : zSH[va]? = some (20, 20)) (hv51 : ¬ va = 51) (h : zHp) (hx : hX h D P) (hw : h va = w) (left : Nat) (hl : left < 2 ^ nN D) (a : Nat) (ha : a < nN D) (Q : Int → zHp → Prop) : ∀ (r b : Nat) (x : Int), b + r = nN D → (x = 0 ∨ x = 1) → (∀ (y : Int) (b' : Nat), y = (if x = 1 ∧ beatF D w left a r b = true then 1 else 0) → zRW mX2_beatsEach 1 (0, 0) 87 [zA 50, zI left, zA va, zI a, zI y, zI b'] [] 143 h (zqi Q)) → zRW mX2_beatsEach 1 (0, 0) 31 [zA 50, zI left, zA va, zI a, zI x, zI b] [] 143 h (zqi Q) := by
  have hN := nN_eq hb
  have hN8 := nN_le hb
  have hS := nS_eq hb
  have hS20 := nS_le hb
  have h256 := p2_256 hb hl
  obtain ⟨x0, x1, x2, x3⟩ := id hx
  intro r
  induction r using Nat.strongRecOn with
  | ind r ih =>
    intro b x hbr hxx kk
    refine z_il5 eX2_beatsEach_31 ?_
    refine z_al0 eX2_beatsEach_33 ?_
    refine z_ga eX2_beatsEach_34 fX2_21 zs50 (t := 4) rfl ?_
    refine z_gi eX2_beatsEach_37 fX2_39 zs4 ?_
    refine z_cge eX2_beatsEach_40 rfl (fun c40 => ?_) (fun c40 => ?_)
    · have e : r = 0 := by omega
      subst e
      exact kk x b (by rcases hxx with e | e <;> simp [e, beatF])
    · skip
      refine z_il4 eX2_beatsEach_43 ?_
      refine z_ieq eX2_beatsEach_45 rfl (fun c45 => ?_) (fun c45 => ?_)
      · exact kk x b (by rw [c45]; simp)
      · obtain ⟨q, rfl⟩ : ∃ q, r = q + 1 := ⟨r - 1, by omega⟩
        have hx1 : x = 1 := by omega
        subst hx1
        refine z_il5 eX2_beatsEach_48 ?_
        refine z_il3 eX2_beatsEach_50 ?_
        refine z_ceq eX2_beatsEach_51 rfl (fun c51 => ?_) (fun c51 => ?_)
        · refine z_incN5 eX2_beatsEach_81 zn0 (by omega) (by omega) ?_
          refine z_goto eX2_beatsEach_84 rfl ?_
          exact ih q (by omega) (b + 1) 1 (by omega) (Or.inr rfl) (fun y b' hy => kk y b' (by rw [hy, beatF]; simp [(by omega : b = a)]))
        · refine z_il1 eX2_beatsEach_54 ?_
          refine z_il5 eX2_beatsEach_55 ?_
          refine z_ishr eX2_beatsEach_57 ?_
          refine z_ki eX2_beatsEach_58 ?_
          refine z_iand eX2_beatsEach_59 ?_
          refine z_ieq eX2_beatsEach_60 rfl (fun c60 => ?_) (fun c60 => ?_)
          · refine z_incN5 eX2_beatsEach_81 zn0 (by omega) (by omega) ?_
            refine z_goto eX2_beatsEach_84 rfl ?_
            rw [kb_b0 (by omega) (by omega)] at c60
            exact ih q (by omega) (b + 1) 1 (by omega) (Or.inr rfl) (fun y b' hy => kk y b' (by rw [hy, beatF]; simp [c60]))
          · refine z_al0 eX2_beatsEach_63 ?_
            refine z_il3 eX2_beatsEach_64 ?_
            refine z_il5 eX2_beatsEach_65 ?_
            refine z_al2 eX2_beatsEach_67 ?_
            refine zc_vi3 eX2_beatsEach_68 lX2_99 tX2_margin zs50 (by decide) (Nat.le_of_ble_eq_true rfl) (x_margin h D w P hb hp hx hvb va hva hw a b ha (by omega) (by omega)) ?_
            rintro _ _ ⟨rfl, rfl⟩ -
            refine z_ile eX2_beatsEach_71 rfl (fun c71 => ?_) (fun c71 => ?_)
            · refine z_ki eX2_beatsEach_78 ?_
              refine z_is4 eX2_beatsEach_79 zn0 ?_
              refine z_incN5 eX2_beatsEach_81 zn0 (by omega) (by omega) ?_
              refine z_goto eX2_beatsEach_84 rfl ?_
              rw [kb_b0 (by omega) (by omega)] at c60
              have z1 : ¬ b = a := by omega
              have z2 : ¬ 0 < moreOf D w a b := by omega
              exact ih q (by omega) (b + 1) 0 (by omega) (Or.inl rfl) (fun y b' hy => kk y b' (by rw [hy, beatF]; simp [z1, c60, z2]))
            · refine z_ki eX2_beatsEach_74 ?_
              refine z_goto eX2_beatsEach_75 rfl ?_
              refine z_is4 eX2_beatsEach_79 zn0 ?_
              refine z_incN5 eX2_beatsEach_81 zn0 (by omega) (by omega) ?_
              refine z_goto eX2_beatsEach_84 rfl ?_
              rw [kb_b0 (by omega) (by omega)] at c60
              exact ih q (by omega) (b + 1) 1 (by omega) (Or.inr rfl) (fun y b' hy => kk y b' (by rw [hy, beatF]; simp [(by omega : 0 < moreOf D w a b)]))
theorem x_beats_a (D w : Nat → Int) (P : Nat → Nat → Nat) (hb : dB D) (hp : pB D P) (hvb : vB D w) (va : Nat) (hva : zSH[va]? = some (20, 20)) (hv51 : ¬ va = 51) (h : zHp) (hx : hX h D P) (hw : h va = w) (left : Nat) (hl : left < 2 ^ nN D) : ∀ (r a : Nat), a + r = nN D → zRW mX2_beatsEach 1 (0, 0) 2 [zA 50, zI left, zA va, zI a, zU, zU] [] 143 h (zqi (fun v h' => (pairF D w left r a : Int) = v ∧ h = h')) := by
  have hN := nN_eq hb
  have hN8 := nN_le hb
  have hS := nS_eq hb
  have hS20 := nS_le hb
  have h256 := p2_256 hb hl
  obtain ⟨x0, x1, x2, x3⟩ := id hx
  intro r
  induction r using Nat.strongRecOn with
  | ind r ih =>
    intro a har
    refine z_il3 eX2_beatsEach_2 ?_
    refine z_al0 eX2_beatsEach_3 ?_
    refine z_ga eX2_beatsEach_4 fX2_21 zs50 (t := 4) rfl ?_
    refine z_gi eX2_beatsEach_7 fX2_39 zs4 ?_
    refine z_cge eX2_beatsEach_10 rfl (fun c10 => ?_) (fun c10 => ?_)
    · refine z_il1 eX2_beatsEach_102 ?_
      refine ze_i eX2_beatsEach_103 rfl ?_
      have e : r = 0 := by omega
      subst e
      exact ⟨rfl, rfl⟩
    · obtain ⟨q, rfl⟩ : ∃ q, r = q + 1 := ⟨r - 1, by omega⟩
      refine z_il1 eX2_beatsEach_13 ?_
      refine z_il3 eX2_beatsEach_14 ?_
      refine z_ishr eX2_beatsEach_15 ?_
      refine z_ki eX2_beatsEach_16 ?_
      refine z_iand eX2_beatsEach_17 ?_
      refine z_ieq eX2_beatsEach_18 rfl (fun c18 => ?_) (fun c18 => ?_)
      · refine z_ki eX2_beatsEach_25 ?_
        refine z_is4 eX2_beatsEach_26 zn0 ?_
        refine z_ki eX2_beatsEach_28 ?_
        refine z_is5 eX2_beatsEach_29 zn0 ?_
        rw [kb_b0 (by omega) (by omega)] at c18
        refine x_beats_b D w P hb hp hvb va hva hv51 h hx hw left hl a (by omega) _ (nN D) 0 0 (Nat.zero_add _) (by omega) (fun y b' hy => ?_)
        replace hy : y = if left.testBit a = true ∧ beatF D w left a (nN D) 0 = true then 1 else 0 := by rw [hy]; simp [c18]
        refine z_il4 eX2_beatsEach_87 ?_
        refine z_ieq eX2_beatsEach_89 rfl (fun c89 => ?_) (fun c89 => ?_)
        · refine z_incN3 eX2_beatsEach_96 zn2 (by omega) (by omega) ?_
          refine z_goto eX2_beatsEach_99 rfl ?_
          refine z_fg4 ?_
          refine z_fg5 ?_
          rw [show pairF D w left (q + 1) a = pairF D w left q (a + 1) by rw [pairF, if_neg (fun z => by rw [if_pos z] at hy; omega)]]
          exact ih q (by omega) (a + 1) (by omega)
        · refine z_ki eX2_beatsEach_92 ?_
          refine z_il3 eX2_beatsEach_93 ?_
          refine z_ishl eX2_beatsEach_94 ?_
          refine ze_i eX2_beatsEach_95 rfl ?_
          rw [kb_shl1 (by omega)]
          exact ⟨by rw [pairF, if_pos (by
            by_cases z : left.testBit a = true ∧ beatF D w left a (nN D) 0 = true
            · exact z
            · rw [if_neg z] at hy; exact absurd hy c89)], rfl⟩
      · refine z_ki eX2_beatsEach_21 ?_
        refine z_goto eX2_beatsEach_22 rfl ?_
        refine z_is4 eX2_beatsEach_26 zn0 ?_
        refine z_ki eX2_beatsEach_28 ?_
        refine z_is5 eX2_beatsEach_29 zn0 ?_
        rw [kb_b0 (by omega) (by omega)] at c18
        refine x_beats_b D w P hb hp hvb va hva hv51 h hx hw left hl a (by omega) _ (nN D) 0 1 (Nat.zero_add _) (by omega) (fun y b' hy => ?_)
        replace hy : y = if left.testBit a = true ∧ beatF D w left a (nN D) 0 = true then 1 else 0 := by rw [hy]; simp [c18]
        refine z_il4 eX2_beatsEach_87 ?_
        refine z_ieq eX2_beatsEach_89 rfl (fun c89 => ?_) (fun c89 => ?_)
        · refine z_incN3 eX2_beatsEach_96 zn2 (by omega) (by omega) ?_
          refine z_goto eX2_beatsEach_99 rfl ?_
          refine z_fg4 ?_
          refine z_fg5 ?_
          rw [show pairF D w left (q + 1) a = pairF D w left q (a + 1) by rw [pairF, if_neg (fun z => by rw [if_pos z] at hy; omega)]]
          exact ih q (by omega) (a + 1) (by omega)
        · refine z_ki eX2_beatsEach_92 ?_
          refine z_il3 eX2_beatsEach_93 ?_
          refine z_ishl eX2_beatsEach_94 ?_
          refine ze_i eX2_beatsEach_95 rfl ?_
          rw [kb_shl1 (by omega)]
          exact ⟨by rw [pairF, if_pos (by
            by_cases z : left.testBit a = true ∧ beatF D w left a (nN D) 0 = true
            · exact z
            · rw [if_neg z] at hy; exact absurd hy c89)], rfl⟩
theorem x_beats (D w : Nat → Int) (P : Nat → Nat → Nat) (hb : dB D) (hp : pB D P) (hvb : vB D w) (va : Nat) (hva : zSH[va]? = some (20, 20)) (hv51 : ¬ va = 51) (h : zHp) (hx : hX h D P) (hw : h va = w) (left : Nat) (hl : left < 2 ^ nN D) : zCi mX2_beatsEach 1 [zA 50, zI left, zA va] h (fun v h' => (pairOf D w left : Int) = v ∧ h = h') := by
  refine z_enter [zA 50, zI left, zA va, zU, zU, zU] (by decide +kernel) (Nat.le_of_ble_eq_true rfl) rfl (fun hra hrg => ?_)
  refine z_ki eX2_beatsEach_0 ?_
  refine z_is3 eX2_beatsEach_1 zn2 ?_
  exact x_beats_a D w P hb hp hvb va hva hv51 h hx hw left hl _ 0 (Nat.zero_add _)
theorem tly_in {D w : Nat → Int} {left k : Nat} (h : left.testBit k = true) : tly D w left (nS D) k = fstOf D w k left := if_pos h
theorem tly_out {D w : Nat → Int} {left k : Nat} (h : ¬ left.testBit k = true) : tly D w left (nS D) k = 0 := if_neg h
theorem x_bar_l (D w : Nat → Int) (hb : dB D) (hvb : vB D w) (va : Nat) (hva : zSH[va]? = some (20, 20)) (left : Nat) (hl : left < 2 ^ nN D) (bar V : Int) (hbar : 0 ≤ bar ∧ bar ≤ 99) (hV : 0 ≤ V ∧ V ≤ 3960) (h g : zHp) (hfr : zFr 51 h g) (hgN : g 4 0 = (nN D : Int)) (htl : ∀ k : Nat, k < 8 → g 51 k = tly D w left (nS D) k) : ∀ (r k : Nat), k + r = nN D → zRW mX2_aboveBar 1 (0, 0) 14 [zA 50, zI left, zA va, zI bar, zI V, zI (pickN (barP D w V left bar) k : Nat), zI k] [] 143 g (zqi (fun v h' => (barOf D w V left bar : Int) = v ∧ zFr 51 h h')) := by
  have hN8 := nN_le hb
  have hS20 := nS_le hb
  have h256 := p2_256 hb hl
  have hnV1 : 0 ≤ bar * V := Int.mul_nonneg hbar.1 hV.1
  have hnV2 := Int.mul_le_mul hbar.2 hV.2 hV.1 (by omega)
  intro r
  induction r using Nat.strongRecOn with
  | ind r ih =>
    intro k hk
    have hpk : pickN (barP D w V left bar) k < 256 := pick_31 _ (by omega)
    refine z_il6 eX2_aboveBar_14 ?_
    refine z_al0 eX2_aboveBar_16 ?_
    refine z_ga eX2_aboveBar_17 fX2_21 zs50 (t := 4) rfl ?_
    refine z_gi eX2_aboveBar_20 fX2_39 zs4 ?_
    refine z_cge eX2_aboveBar_23 rfl (fun c23 => ?_) (fun c23 => ?_)
    · refine z_il5 eX2_aboveBar_64 ?_
      refine z_ine eX2_aboveBar_66 rfl (fun c66 => ?_) (fun c66 => ?_)
      · refine z_il5 eX2_aboveBar_73 ?_
        refine ze_i eX2_aboveBar_75 rfl ?_
        have e : k = nN D := by omega
        subst e
        exact ⟨by rw [barOf, if_neg (by omega)], hfr⟩
      · refine z_il1 eX2_aboveBar_69 ?_
        refine z_goto eX2_aboveBar_70 rfl ?_
        refine ze_i eX2_aboveBar_75 rfl ?_
        have e : k = nN D := by omega
        subst e
        exact ⟨by rw [barOf, if_pos (by omega)], hfr⟩
    · have hty := htl k (by omega)
      have htb := tly_b hvb left (Nat.le_refl (nS D)) k
      refine z_il5 eX2_aboveBar_26 ?_
      refine z_al0 eX2_aboveBar_28 ?_
      refine z_ga eX2_aboveBar_29 fX2_9 zs50 (t := 51) rfl ?_
      refine z_il6 eX2_aboveBar_32 ?_
      refine zr_iN eX2_aboveBar_34 zs51 (j := k) (by omega) (by omega) ?_
      refine z_ki eX2_aboveBar_35 ?_
      refine z_imulN eX2_aboveBar_37 (by omega) (by omega) ?_
      refine z_il3 eX2_aboveBar_38 ?_
      refine z_il4 eX2_aboveBar_39 ?_
      refine z_imulN eX2_aboveBar_41 (by omega) (by omega) ?_
      refine z_clt eX2_aboveBar_42 rfl (fun c42 => ?_) (fun c42 => ?_)
      · refine z_ki eX2_aboveBar_54 ?_
        refine z_ior eX2_aboveBar_55 ?_
        refine z_is5 eX2_aboveBar_56 zn0 ?_
        refine z_incN6 eX2_aboveBar_58 zn0 (by omega) (by omega) ?_
        refine z_goto eX2_aboveBar_61 rfl ?_
        have e : pickN (barP D w V left bar) (k + 1) = if barP D w V left bar k then pickN (barP D w V left bar) k ||| 2 ^ k else pickN (barP D w V left bar) k := rfl
        rw [show (0 : Int) = ((0 : Nat) : Int) from rfl, kb_or (by omega) (by omega), Nat.or_zero]
        rw [if_neg (by
          by_cases z2 : left.testBit k = true
          · rw [tly_in z2] at hty
            have z1 : ¬ bar * V ≤ 100 * fstOf D w k left := by omega
            simp [barP, z1]
          · simp [barP, z2])] at e
        rw [← e]
        exact ih (r - 1) (by omega) (k + 1) (by omega)
      · refine z_il1 eX2_aboveBar_45 ?_
        refine z_ki eX2_aboveBar_46 ?_
        refine z_il6 eX2_aboveBar_47 ?_
        refine z_ishl eX2_aboveBar_49 ?_
        refine z_iand eX2_aboveBar_50 ?_
        refine z_goto eX2_aboveBar_51 rfl ?_
        refine z_ior eX2_aboveBar_55 ?_
        refine z_is5 eX2_aboveBar_56 zn0 ?_
        refine z_incN6 eX2_aboveBar_58 zn0 (by omega) (by omega) ?_
        refine z_goto eX2_aboveBar_61 rfl ?_
        have e : pickN (barP D w V left bar) (k + 1) = if barP D w V left bar k then pickN (barP D w V left bar) k ||| 2 ^ k else pickN (barP D w V left bar) k := rfl
        rw [kb_shl1 (by omega), kb_and (by omega), and_p2]
        by_cases z2 : left.testBit k = true
        · rw [tly_in z2] at hty
          have z1 : bar * V ≤ 100 * fstOf D w k left := by omega
          rw [if_pos (by simp [barP, z1, z2])] at e
          rw [if_pos z2, kb_or (by omega) (p2_31 (by omega)), ← e]
          exact ih (r - 1) (by omega) (k + 1) (by omega)
        rw [if_neg (by simp [barP, z2])] at e
        rw [if_neg z2, kb_or (by omega) (by omega), Nat.or_zero, ← e]
        exact ih (r - 1) (by omega) (k + 1) (by omega)
theorem x_bar (D w : Nat → Int) (P : Nat → Nat → Nat) (hb : dB D) (hp : pB D P) (hvb : vB D w) (va : Nat) (hva : zSH[va]? = some (20, 20)) (hv51 : ¬ va = 51) (h : zHp) (hx : hX h D P) (hw : h va = w) (left : Nat) (hl : left < 2 ^ nN D) (bar : Int) (hbar : 0 ≤ bar ∧ bar ≤ 99) : zCi mX2_aboveBar 1 [zA 50, zI left, zA va, zI bar] h (fun v h' => (barOf D w (sumN w (nS D)) left bar : Int) = v ∧ zFr 51 h h') := by
  refine z_enter [zA 50, zI left, zA va, zI bar, zU, zU, zU] (by decide +kernel) (Nat.le_of_ble_eq_true rfl) rfl (fun hra hrg => ?_)
  refine z_al0 eX2_aboveBar_0 ?_
  refine z_il1 eX2_aboveBar_1 ?_
  refine z_al2 eX2_aboveBar_2 ?_
  refine zc_vi2 eX2_aboveBar_3 lX2_96 tX2_tallyFirsts zs50 (by decide) (Nat.le_of_ble_eq_true rfl) (x_tally D w P hb hp hvb va hva hv51 h hx hw left hl) ?_
  rintro _ g ⟨rfl, hfr, htl⟩ -
  refine z_is4 eX2_aboveBar_6 zn0 ?_
  refine z_ki eX2_aboveBar_8 ?_
  refine z_is5 eX2_aboveBar_9 zn0 ?_
  refine z_ki eX2_aboveBar_11 ?_
  refine z_is6 eX2_aboveBar_12 zn0 ?_
  exact x_bar_l D w hb hvb va hva left hl bar _ hbar (vB_sum3960 hb hvb) h g hfr (by rw [hfr 4 (by decide), hx.1]; exact nN_eq hb) htl _ 0 (Nat.zero_add _)
theorem x_firstsOf (D w : Nat → Int) (P : Nat → Nat → Nat) (hb : dB D) (hp : pB D P) (hvb : vB D w) (va : Nat) (hva : zSH[va]? = some (20, 20)) (hv51 : ¬ va = 51) (h : zHp) (hx : hX h D P) (hw : h va = w) (k : Nat) (hk : k < 8) (left : Nat) (hl : left < 2 ^ nN D) : zCi mX2_firstsOf 1 [zA 50, zI k, zI left, zA va] h (fun v h' => tly D w left (nS D) k = v ∧ zFr 51 h h') := by
  refine z_enter [zA 50, zI k, zI left, zA va] (by decide +kernel) (Nat.le_of_ble_eq_true rfl) rfl (fun hra hrg => ?_)
  refine z_al0 eX2_firstsOf_0 ?_
  refine z_il2 eX2_firstsOf_1 ?_
  refine z_al3 eX2_firstsOf_2 ?_
  refine zc_vi2 eX2_firstsOf_3 lX2_96 tX2_tallyFirsts zs50 (by decide) (Nat.le_of_ble_eq_true rfl) (x_tally D w P hb hp hvb va hva hv51 h hx hw left hl) ?_
  rintro _ g ⟨rfl, hfr, htl⟩ -
  refine z_pop eX2_firstsOf_6 zn0 ?_
  refine z_il1 eX2_firstsOf_7 ?_
  refine z_ilt eX2_firstsOf_8 rfl (fun c8 => ?_) (fun c8 => ?_)
  · exfalso; omega
  · refine z_il1 eX2_firstsOf_11 ?_
    refine z_ki eX2_firstsOf_12 ?_
    refine z_cge eX2_firstsOf_14 rfl (fun c14 => ?_) (fun c14 => ?_)
    · exfalso; omega
    · refine z_al0 eX2_firstsOf_17 ?_
      refine z_ga eX2_firstsOf_18 fX2_9 zs50 (t := 51) rfl ?_
      refine z_il1 eX2_firstsOf_21 ?_
      refine zr_iN eX2_firstsOf_22 zs51 (j := k) (by omega) (by omega) ?_
      refine z_goto eX2_firstsOf_23 rfl ?_
      refine ze_i eX2_firstsOf_27 rfl ?_
      exact ⟨(htl k hk).symm, hfr⟩
