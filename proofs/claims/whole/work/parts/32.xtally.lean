-- the class counts firsts (written by wip/tools/specX2.py)
theorem hX.fr {h g : zHp} {D : Nat → Int} {P : Nat → Nat → Nat} (hx : hX h D P) {c : Nat} (hfr : zFr c h g) (hc : 14 ≤ c) : hX g D P := by
  obtain ⟨x0, x1, x2, x3⟩ := hx
  refine ⟨by rw [hfr 4 (by omega)]; exact x0, by rw [hfr 4 (by omega)]; exact x1, fun s k hs hk => ?_, fun k hk => ?_⟩
  · rw [hfr 12 (by omega), hfr 13 (by omega)]
    exact x2 s k hs hk
  · rw [hfr 7 (by omega)]
    exact x3 k hk
/-- of a sort's voters: whom they put first -/
theorem fst_at {D : Nat → Int} {P : Nat → Nat → Nat} (hb : dB D) (hp : pB D P) {s : Nat} (hs : s < nS D) {left i : Nat} (hi : i < nN D) (hno : ∀ j, j < i → left.testBit (oD D s j) = false) (ht : left.testBit (oD D s i) = true) {k : Nat} (hk : k < nN D) (hkl : left.testBit k = true) : plc D s k left = 0 ↔ k = oD D s i := by
  rw [plc_cnt hb hp hs hk, cntTo_0]
  have h1 := hp s k hs hk
  constructor
  · intro h
    rcases Nat.lt_trichotomy (P s k) i with q | q | q
    · have := hno _ q
      rw [h1.2.1, hkl] at this
      cases this
    · rw [← q, h1.2.1]
    · have := h i q
      rw [ht] at this
      cases this
  · intro h j hj
    have : P s k = i := by rw [h]; exact (hp s i hs hi).2.2
    exact hno j (by omega)
theorem tb_lt {s n k : Nat} (h : s < 2 ^ n) (hk : s.testBit k = true) : k < n := by
  rcases Nat.lt_or_ge k n with q | q
  · exact q
  · rw [Nat.testBit_lt_two_pow (Nat.lt_of_lt_of_le h (Nat.pow_le_pow_right (by omega) q))] at hk
    cases hk
/-- the tally behind the first s sorts -/
def tly (D w : Nat → Int) (left s : Nat) (k : Nat) : Int := if left.testBit k = true then sumN (fstS D w k left) s else 0
theorem tly_b {D w : Nat → Int} (hvb : vB D w) (left : Nat) {s : Nat} (hs : s ≤ nS D) (k : Nat) : 0 ≤ tly D w left s k ∧ tly D w left s k ≤ 198 * s := by
  unfold tly
  split
  · exact vB_sum (fstS_b hvb k left) hs
  · omega
theorem x_tally_i (D w : Nat → Int) (P : Nat → Nat → Nat) (hb : dB D) (hp : pB D P) (hvb : vB D w) (va : Nat) (hva : zSH[va]? = some (20, 20)) (hv51 : ¬ va = 51) (h : zHp) (hx : hX h D P) (hw : h va = w) (left : Nat) (hl : left < 2 ^ nN D) (sm : Int) (s : Nat) (hs : s < nS D) (Q : Int → zHp → Prop) (g : zHp) (hfr : zFr 51 h g) (htl : ∀ k : Nat, k < 8 → g 51 k = tly D w left s k) (kk : (∀ g', zFr 51 h g' → (∀ k : Nat, k < 8 → g' 51 k = tly D w left (s + 1) k) → zRW mX2_tallyFirsts 0 (0, 0) 113 [zA 50, zI left, zA va, zI sm, zI s, zU, zU] [] 143 g' (zqi Q))) : ∀ (r i : Nat), i + r = nN D → (∀ j : Nat, j < i → left.testBit (oD D s j) = false) → zRW mX2_tallyFirsts 0 (0, 0) 44 [zA 50, zI left, zA va, zI sm, zI s, zI i, zU] [] 143 g (zqi Q) := by
  have hN := nN_eq hb
  have hN8 := nN_le hb
  have hS := nS_eq hb
  have hS20 := nS_le hb
  have h256 := p2_256 hb hl
  have hgv : g va = w := (hfr va hv51).trans hw
  obtain ⟨x0, x1, x2, x3⟩ := hx.fr hfr (by decide)
  have hv := hvb s hs
  intro r
  induction r using Nat.strongRecOn with
  | ind r ih =>
    intro i hi hno
    refine z_il5 eX2_tallyFirsts_44 ?_
    refine z_al0 eX2_tallyFirsts_46 ?_
    refine z_ga eX2_tallyFirsts_47 fX2_21 zs50 (t := 4) rfl ?_
    refine z_gi eX2_tallyFirsts_50 fX2_39 zs4 ?_
    refine z_cge eX2_tallyFirsts_53 rfl (fun c53 => ?_) (fun c53 => ?_)
    · refine z_fg5 ?_
      refine kk g hfr (fun k hk => ?_)
      rw [htl k hk]
      unfold tly
      split
      · next z =>
        have hk2 := tb_lt hl z
        have hP := hp s k hs hk2
        have := hno (P s k) (by omega)
        rw [hP.2.1, z] at this
        cases this
      · rfl
    · refine z_al2 eX2_tallyFirsts_56 ?_
      refine z_il4 eX2_tallyFirsts_57 ?_
      refine zr_iN eX2_tallyFirsts_59 hva (j := s) (by omega) (by omega) ?_
      rw [hgv]
      refine z_ile eX2_tallyFirsts_60 rfl (fun c60 => ?_) (fun c60 => ?_)
      · refine z_fg5 ?_
        refine kk g hfr (fun k hk => ?_)
        rw [htl k hk]
        unfold tly
        split
        · have e : sumN (fstS D w k left) (s + 1) = sumN (fstS D w k left) s + fstS D w k left s := rfl
          have e2 : fstS D w k left s = 0 := by unfold fstS; split <;> omega
          omega
        · rfl
      · have ho := oD_lt hb hs (show i < nN D by omega)
        have hor := (x2 s i hs (by omega)).1
        refine z_al0 eX2_tallyFirsts_63 ?_
        refine z_ga eX2_tallyFirsts_64 fX2_21 zs50 (t := 4) rfl ?_
        refine z_ga eX2_tallyFirsts_67 fX2_81 zs4 (t := 12) rfl ?_
        refine z_il4 eX2_tallyFirsts_70 ?_
        refine z_ki eX2_tallyFirsts_72 ?_
        refine z_imulN eX2_tallyFirsts_74 (by omega) (by omega) ?_
        refine z_il5 eX2_tallyFirsts_75 ?_
        refine z_iaddN eX2_tallyFirsts_77 (by omega) (by omega) ?_
        refine zr_iN eX2_tallyFirsts_78 zs12 (j := 8 * s + i) (by omega) (by omega) ?_
        rw [hor, ho.2]
        refine z_is6 eX2_tallyFirsts_79 zn0 ?_
        refine z_il1 eX2_tallyFirsts_81 ?_
        refine z_il6 eX2_tallyFirsts_82 ?_
        refine z_ishr eX2_tallyFirsts_84 ?_
        refine z_ki eX2_tallyFirsts_85 ?_
        refine z_iand eX2_tallyFirsts_86 ?_
        refine z_ieq eX2_tallyFirsts_87 rfl (fun c87 => ?_) (fun c87 => ?_)
        · refine z_incN5 eX2_tallyFirsts_107 zn0 (by omega) (by omega) ?_
          refine z_goto eX2_tallyFirsts_110 rfl ?_
          refine z_fg6 ?_
          rw [kb_b0 (by omega) (by omega)] at c87
          exact ih (r - 1) (by omega) (i + 1) (by omega) (fun j hj => by
            by_cases e : j = i
            · rw [e]; exact c87
            · exact hno j (by omega))
        · refine z_al0 eX2_tallyFirsts_90 ?_
          refine z_ga eX2_tallyFirsts_91 fX2_9 zs50 (t := 51) rfl ?_
          refine z_il6 eX2_tallyFirsts_94 ?_
          refine z_dup2 eX2_tallyFirsts_96 zn0 zn2 ?_
          refine zr_iN eX2_tallyFirsts_97 zs51 (j := oD D s i) (by omega) (by omega) ?_
          refine z_al2 eX2_tallyFirsts_98 ?_
          refine z_il4 eX2_tallyFirsts_99 ?_
          refine zr_iN eX2_tallyFirsts_101 hva (j := s) (by omega) (by omega) ?_
          rw [hgv]
          have hty := htl (oD D s i) (by omega)
          have htb := tly_b hvb left (show s ≤ nS D by omega) (oD D s i)
          refine z_iaddN eX2_tallyFirsts_102 (by omega) (by omega) ?_
          refine zs_iN eX2_tallyFirsts_103 zs51 (j := oD D s i) (by omega) (by omega) ?_
          refine z_goto eX2_tallyFirsts_104 rfl ?_
          refine z_fg5 ?_
          refine z_fg6 ?_
          rw [kb_b0 (by omega) (by omega)] at c87
          have ht : left.testBit (oD D s i) = true := by simpa using c87
          refine kk _ (hfr.up _ _) (fun k hk => ?_)
          have e : sumN (fstS D w k left) (s + 1) = sumN (fstS D w k left) s + fstS D w k left s := rfl
          by_cases z : k = oD D s i
          · subst z
            rw [zup_at, hty]
            unfold tly
            rw [if_pos ht, if_pos ht, e]
            unfold fstS
            rw [if_pos ((fst_at hb hp hs (by omega) hno ht (by omega) ht).mpr rfl)]
          · rw [zup_ne (by omega), htl k hk]
            unfold tly
            split
            · next z2 =>
              have e2 : fstS D w k left s = 0 := by
                unfold fstS
                rw [if_neg (fun q => z ((fst_at hb hp hs (by omega) hno ht (tb_lt hl z2) z2).mp q))]
              omega
            · rfl
theorem x_tally_s (D w : Nat → Int) (P : Nat → Nat → Nat) (hb : dB D) (hp : pB D P) (hvb : vB D w) (va : Nat) (hva : zSH[va]? = some (20, 20)) (hv51 : ¬ va = 51) (h : zHp) (hx : hX h D P) (hw : h va = w) (left : Nat) (hl : left < 2 ^ nN D) : ∀ (r s : Nat) (g : zHp), zFr 51 h g → s + r = nS D → (∀ k : Nat, k < 8 → g 51 k = tly D w left s k) → zRW mX2_tallyFirsts 0 (0, 0) 29 [zA 50, zI left, zA va, zI (sumN w s), zI s, zU, zU] [] 143 g (zqi (fun v h' => sumN w (nS D) = v ∧ zFr 51 h h' ∧ ∀ k : Nat, k < 8 → h' 51 k = tly D w left (nS D) k)) := by
  have hN := nN_eq hb
  have hN8 := nN_le hb
  have hS := nS_eq hb
  have hS20 := nS_le hb
  intro r
  induction r using Nat.strongRecOn with
  | ind r ih =>
    intro s g hfr hs htl
    obtain ⟨x0, x1, x2, x3⟩ := hx.fr hfr (by decide)
    refine z_il4 eX2_tallyFirsts_29 ?_
    refine z_al0 eX2_tallyFirsts_31 ?_
    refine z_ga eX2_tallyFirsts_32 fX2_21 zs50 (t := 4) rfl ?_
    refine z_gi eX2_tallyFirsts_35 fX2_78 zs4 ?_
    refine z_cge eX2_tallyFirsts_38 rfl (fun c38 => ?_) (fun c38 => ?_)
    · refine z_il3 eX2_tallyFirsts_126 ?_
      refine ze_i eX2_tallyFirsts_127 rfl ?_
      have e : s = nS D := by omega
      subst e
      exact ⟨rfl, hfr, htl⟩
    · have hsum := vB_sum hvb (show s ≤ nS D by omega)
      have hv := hvb s (by omega)
      refine z_ki eX2_tallyFirsts_41 ?_
      refine z_is5 eX2_tallyFirsts_42 zn0 ?_
      refine x_tally_i D w P hb hp hvb va hva hv51 h hx hw left hl _ s (by omega) _ g hfr htl (fun g2 hfr2 htl2 => ?_) _ 0 (Nat.zero_add _) (fun j hj => by omega)
      refine z_il3 eX2_tallyFirsts_113 ?_
      refine z_al2 eX2_tallyFirsts_114 ?_
      refine z_il4 eX2_tallyFirsts_115 ?_
      refine zr_iN eX2_tallyFirsts_117 hva (j := s) (by omega) (by omega) ?_
      rw [show g2 va = w from (hfr2 va hv51).trans hw]
      refine z_iaddN eX2_tallyFirsts_118 (by omega) (by omega) ?_
      refine z_is3 eX2_tallyFirsts_119 zn2 ?_
      refine z_incN4 eX2_tallyFirsts_120 zn0 (by omega) (by omega) ?_
      refine z_goto eX2_tallyFirsts_123 rfl ?_
      exact ih (r - 1) (by omega) (s + 1) g2 hfr2 (by omega) htl2
theorem x_tally_z (D w : Nat → Int) (P : Nat → Nat → Nat) (hb : dB D) (hp : pB D P) (hvb : vB D w) (va : Nat) (hva : zSH[va]? = some (20, 20)) (hv51 : ¬ va = 51) (h : zHp) (hx : hX h D P) (hw : h va = w) (left : Nat) (hl : left < 2 ^ nN D) : ∀ (r i : Nat), i + r = 8 → zRW mX2_tallyFirsts 0 (0, 0) 5 [zA 50, zI left, zA va, zI 0, zI i, zU, zU] [] 143 (zfill h 51 i 0) (zqi (fun v h' => sumN w (nS D) = v ∧ zFr 51 h h' ∧ ∀ k : Nat, k < 8 → h' 51 k = tly D w left (nS D) k)) := by
  intro r
  induction r using Nat.strongRecOn with
  | ind r ih =>
    intro i hi
    refine z_il4 eX2_tallyFirsts_5 ?_
    refine z_ki eX2_tallyFirsts_7 ?_
    refine z_cge eX2_tallyFirsts_9 rfl (fun c9 => ?_) (fun c9 => ?_)
    · refine z_ki eX2_tallyFirsts_26 ?_
      refine z_is4 eX2_tallyFirsts_27 zn0 ?_
      have e : i = 8 := by omega
      subst e
      exact x_tally_s D w P hb hp hvb va hva hv51 h hx hw left hl _ 0 _ (fun a ha => zfill_off ha) (Nat.zero_add _) (fun k hk => by rw [zfill_on hk]; unfold tly sumN; simp)
    · refine z_al0 eX2_tallyFirsts_12 ?_
      refine z_ga eX2_tallyFirsts_13 fX2_9 zs50 (t := 51) rfl ?_
      refine z_il4 eX2_tallyFirsts_16 ?_
      refine z_ki eX2_tallyFirsts_18 ?_
      refine zs_iN eX2_tallyFirsts_19 zs51 (j := i) (by omega) (by omega) ?_
      refine z_incN4 eX2_tallyFirsts_20 zn0 (by omega) (by omega) ?_
      refine z_goto eX2_tallyFirsts_23 rfl ?_
      rw [zfill_s]
      exact ih (r - 1) (by omega) (i + 1) (by omega)
theorem x_tally (D w : Nat → Int) (P : Nat → Nat → Nat) (hb : dB D) (hp : pB D P) (hvb : vB D w) (va : Nat) (hva : zSH[va]? = some (20, 20)) (hv51 : ¬ va = 51) (h : zHp) (hx : hX h D P) (hw : h va = w) (left : Nat) (hl : left < 2 ^ nN D) : zCi mX2_tallyFirsts 0 [zA 50, zI left, zA va] h (fun v h' => sumN w (nS D) = v ∧ zFr 51 h h' ∧ ∀ k : Nat, k < 8 → h' 51 k = tly D w left (nS D) k) := by
  refine z_enter [zA 50, zI left, zA va, zU, zU, zU, zU] (by decide +kernel) (Nat.le_of_ble_eq_true rfl) rfl (fun hra hrg => ?_)
  refine z_ki eX2_tallyFirsts_0 ?_
  refine z_is3 eX2_tallyFirsts_1 zn2 ?_
  refine z_ki eX2_tallyFirsts_2 ?_
  refine z_is4 eX2_tallyFirsts_3 zn0 ?_
  have q := x_tally_z D w P hb hp hvb va hva hv51 h hx hw left hl 8 0 (Nat.zero_add _)
  rw [zfill_0] at q
  exact q
