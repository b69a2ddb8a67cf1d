-- the class counts points (written by wip/tools/specX5.py)
def ptl (D w : Nat → Int) (left c s k : Nat) : Int := if left.testBit k = true then sumN (ptsS D w left c k) s else 0
def ptm (D w : Nat → Int) (P : Nat → Nat → Nat) (left c s i k : Nat) : Int := if left.testBit k = true then sumN (ptsS D w left c k) s + (if P s k < i then ptsS D w left c k s else 0) else 0
theorem ptl_b {D w : Nat → Int} (hb : dB D) (hvb : vB D w) {c : Nat} (hc : c < 4) (left k s : Nat) (hs : s ≤ nS D) : 0 ≤ sumN (ptsS D w left c k) s ∧ sumN (ptsS D w left c k) s ≤ 19602 * s := by
  have := sumN_b (f := ptsS D w left c k) (lo := 0) (hi := 19602) s (fun j hj => ptsS_b hb hvb hc left k j (by omega))
  omega
def mxN (t : Nat → Int) : Nat → Int
  | 0 => 0
  | n + 1 => max (mxN t n) (t n)
theorem mxN_best {t c : Nat → Int} {left : Nat} : ∀ n, (∀ k, k < n → t k = if left.testBit k = true then c k else 0) → mxN t n = max 0 (bestN c left n) := by
  intro n
  induction n with
  | zero => intro _; rfl
  | succ n ih =>
    intro h
    have h1 := ih (fun k hk => h k (by omega))
    have h2 := h n (by omega)
    rw [mxN, bestN, h1, h2]
    split <;> omega
theorem bestN_ge {c : Nat → Int} {left : Nat} : ∀ n k, k < n → left.testBit k = true → c k ≤ bestN c left n := by
  intro n
  induction n with
  | zero => intro k hk; omega
  | succ n ih =>
    intro k hk hs
    rw [bestN]
    by_cases e : k = n
    · subst e
      rw [if_pos hs]
      omega
    · have := ih k (by omega) hs
      split <;> omega
theorem atLeast_great {t c : Nat → Int} {left n : Nat} (h : ∀ k, k < n → t k = if left.testBit k = true then c k else 0) (h0 : ∀ k, k < n → left.testBit k = true → 0 ≤ c k) : pickN (atP t left (mxN t n)) n = greatOf c left n := by
  unfold greatOf
  apply pickN_congr
  intro k hk
  unfold atP grtP
  cases z : left.testBit k with
  | false => rfl
  | true =>
    have h1 := h k hk
    rw [if_pos z] at h1
    have h2 := bestN_ge (c := c) n k hk z
    have h3 := h0 k hk z
    have h4 := mxN_best (t := t) (c := c) (left := left) n h
    simp only [Bool.true_and]
    apply decide_eq_decide.mpr
    omega
theorem x_pts_i (D w : Nat → Int) (P : Nat → Nat → Nat) (hb : dB D) (hp : pB D P) (hvb : vB D w) (va : Nat) (hva : zSH[va]? = some (20, 20)) (hv51 : ¬ va = 51) (h : zHp) (hx : hX h D P) (hw : h va = w) (left : Nat) (hl : left < 2 ^ nN D) (c : Nat) (hc : c < 4) (mn : Nat) (hmn : mn ≤ 8) (hm : h 26 c = (mn : Int)) (hpt : ∀ i : Nat, i < mn → h 27 (8 * c + i) = eachP D c i) (hez : ∀ q : Int, mn ≤ q → eachP D c q = 0) (s : Nat) (hs : s < nS D) (Q : Int → zHp → Prop) (kk : ∀ g', zFr 51 h g' → (∀ k : Nat, k < 8 → g' 51 k = ptl D w left c (s + 1) k) → zRW mX2_mostPoints 1 (0, 0) 136 [zA 50, zI left, zA va, zI c, zI (8 * c : Nat), zI mn, zI s, zU, zU, zU] [] 143 g' (zqi Q)) : ∀ (r i : Nat) (g : zHp), zFr 51 h g → i + r = nN D → (∀ k : Nat, k < 8 → g 51 k = ptm D w P left c s i k) → zRW mX2_mostPoints 1 (0, 0) 46 [zA 50, zI left, zA va, zI c, zI (8 * c : Nat), zI mn, zI s, zI (cntTo D s left i), zI i, zU] [] 143 g (zqi Q) := by
  have hN := nN_eq hb
  have hN8 := nN_le hb
  have hS := nS_eq hb
  have hS20 := nS_le hb
  have h256 := p2_256 hb hl
  have hv := hvb s hs
  intro r
  induction r using Nat.strongRecOn with
  | ind r ih =>
    intro i g hfr hi htl
    have hgv : g va = w := (hfr va hv51).trans hw
    obtain ⟨x0, x1, x2, x3⟩ := hx.fr hfr (by decide)
    have hcT := cntTo_b D s left i
    have h26 : g 26 = h 26 := hfr 26 (by decide)
    have h27 : g 27 = h 27 := hfr 27 (by decide)
    refine z_il8 eX2_mostPoints_46 ?_
    refine z_al0 eX2_mostPoints_48 ?_
    refine z_ga eX2_mostPoints_49 fX2_21 zs50 (t := 4) rfl ?_
    refine z_gi eX2_mostPoints_52 fX2_39 zs4 ?_
    refine z_cge eX2_mostPoints_55 rfl (fun c55 => ?_) (fun c55 => ?_)
    · refine z_fg7 ?_
      refine z_fg8 ?_
      refine kk g hfr (fun k hk => ?_)
      rw [htl k hk]
      unfold ptm ptl
      split
      · next z =>
        have e : sumN (ptsS D w left c k) (s + 1) = sumN (ptsS D w left c k) s + ptsS D w left c k s := rfl
        have hk2 := tb_lt hl z
        have hP := hp s k hs hk2
        split
        · exact e.symm
        · next z2 =>
          have e2 : ptsS D w left c k s = 0 := by
            omega
          omega
      · rfl
    · refine z_il7 eX2_mostPoints_58 ?_
      refine z_il5 eX2_mostPoints_60 ?_
      refine z_cge eX2_mostPoints_62 rfl (fun c62 => ?_) (fun c62 => ?_)
      · refine z_fg7 ?_
        refine z_fg8 ?_
        refine kk g hfr (fun k hk => ?_)
        rw [htl k hk]
        unfold ptm ptl
        split
        · next z =>
          have e : sumN (ptsS D w left c k) (s + 1) = sumN (ptsS D w left c k) s + ptsS D w left c k s := rfl
          have hk2 := tb_lt hl z
          have hP := hp s k hs hk2
          split
          · exact e.symm
          · next z2 =>
            have e2 : ptsS D w left c k s = 0 := by
              unfold ptsS
              rw [plc_cnt hb hp hs hk2, hez _ (by have := cntTo_mono D s left (show i ≤ P s k by omega); omega), Int.zero_mul]
            omega
        · rfl
      · refine z_al2 eX2_mostPoints_65 ?_
        refine z_il6 eX2_mostPoints_66 ?_
        refine zr_iN eX2_mostPoints_68 hva (j := s) (by omega) (by omega) ?_
        rw [hgv]
        refine z_ile eX2_mostPoints_69 rfl (fun c69 => ?_) (fun c69 => ?_)
        · refine z_fg7 ?_
          refine z_fg8 ?_
          refine kk g hfr (fun k hk => ?_)
          rw [htl k hk]
          unfold ptm ptl
          split
          · next z =>
            have e : sumN (ptsS D w left c k) (s + 1) = sumN (ptsS D w left c k) s + ptsS D w left c k s := rfl
            have hk2 := tb_lt hl z
            have hP := hp s k hs hk2
            split
            · exact e.symm
            · next z2 =>
              have e2 : ptsS D w left c k s = 0 := by
                unfold ptsS
                rw [show w s = 0 by omega, Int.mul_zero]
              omega
          · rfl
        · have ho := oD_lt hb hs (show i < nN D by omega)
          have hor := (x2 s i hs (by omega)).1
          have hPi := (hp s i hs (by omega)).2.2
          refine z_al0 eX2_mostPoints_72 ?_
          refine z_ga eX2_mostPoints_73 fX2_21 zs50 (t := 4) rfl ?_
          refine z_ga eX2_mostPoints_76 fX2_81 zs4 (t := 12) rfl ?_
          refine z_il6 eX2_mostPoints_79 ?_
          refine z_ki eX2_mostPoints_81 ?_
          refine z_imulN eX2_mostPoints_83 (by omega) (by omega) ?_
          refine z_il8 eX2_mostPoints_84 ?_
          refine z_iaddN eX2_mostPoints_86 (by omega) (by omega) ?_
          refine zr_iN eX2_mostPoints_87 zs12 (j := 8 * s + i) (by omega) (by omega) ?_
          rw [hor, ho.2]
          refine z_is9 eX2_mostPoints_88 zn0 ?_
          refine z_il1 eX2_mostPoints_90 ?_
          refine z_il9 eX2_mostPoints_91 ?_
          refine z_ishr eX2_mostPoints_93 ?_
          refine z_ki eX2_mostPoints_94 ?_
          refine z_iand eX2_mostPoints_95 ?_
          refine z_ieq eX2_mostPoints_96 rfl (fun c96 => ?_) (fun c96 => ?_)
          · refine z_incN8 eX2_mostPoints_130 zn0 (by omega) (by omega) ?_
            refine z_goto eX2_mostPoints_133 rfl ?_
            refine z_fg9 ?_
            rw [kb_b0 (by omega) (by omega)] at c96
            have e : cntTo D s left (i + 1) = cntTo D s left i := by
              have e1 : cntTo D s left (i + 1) = cntTo D s left i + bv left (oD D s i) := rfl
              rw [e1]
              unfold bv
              rw [c96]
              simp
            rw [← e]
            refine ih (r - 1) (by omega) (i + 1) g hfr (by omega) (fun k hk => ?_)
            rw [htl k hk]
            unfold ptm
            split
            · next z =>
              have hk2 := tb_lt hl z
              have hP := hp s k hs hk2
              have hne : ¬ P s k = i := fun q => by
                rw [q] at hP
                rw [hP.2.1, z] at c96
                cases c96
              by_cases z2 : P s k < i
              · rw [if_pos z2, if_pos (by omega)]
              · rw [if_neg z2, if_neg (by omega)]
            · rfl
          · rw [kb_b0 (by omega) (by omega)] at c96
            have tb : left.testBit (oD D s i) = true := by simpa using c96
            have hty := htl (oD D s i) (by omega)
            have hplc : plc D s (oD D s i) left = cntTo D s left i := by rw [plc_cnt hb hp hs ho.1, hPi]
            have hpb := ptsS_b hb hvb hc left (oD D s i) s hs
            have hpe : ptsS D w left c (oD D s i) s = w s * eachP D c (cntTo D s left i) := by unfold ptsS; rw [hplc, Int.mul_comm]
            have hsb := ptl_b hb hvb hc left (oD D s i) s (by omega)
            have hty2 : g 51 (oD D s i) = sumN (ptsS D w left c (oD D s i)) s := by rw [hty]; unfold ptm; rw [if_pos tb, hPi, if_neg (by omega), Int.add_zero]
            refine z_al0 eX2_mostPoints_99 ?_
            refine z_ga eX2_mostPoints_100 fX2_9 zs50 (t := 51) rfl ?_
            refine z_il9 eX2_mostPoints_103 ?_
            refine z_dup2 eX2_mostPoints_105 zn0 zn2 ?_
            refine zr_iN eX2_mostPoints_106 zs51 (j := oD D s i) (by omega) (by omega) ?_
            refine z_al2 eX2_mostPoints_107 ?_
            refine z_il6 eX2_mostPoints_108 ?_
            refine zr_iN eX2_mostPoints_110 hva (j := s) (by omega) (by omega) ?_
            refine z_al0 eX2_mostPoints_111 ?_
            refine z_ga eX2_mostPoints_112 fX2_25 zs50 (t := 24) rfl ?_
            refine z_ga eX2_mostPoints_115 fX2_84 zs24 (t := 27) rfl ?_
            refine z_il4 eX2_mostPoints_118 ?_
            refine z_il7 eX2_mostPoints_120 ?_
            refine z_iaddN eX2_mostPoints_122 (by omega) (by omega) ?_
            refine zr_iN eX2_mostPoints_123 zs27 (j := 8 * c + (cntTo D s left i).toNat) (by omega) (by omega) ?_
            rw [hgv, h27, hpt _ (by omega), show (((cntTo D s left i).toNat : Nat) : Int) = cntTo D s left i by omega]
            refine z_imulN eX2_mostPoints_124 (by omega) (by omega) ?_
            rw [← hpe, hty2]
            refine z_iaddN eX2_mostPoints_125 (by omega) (by omega) ?_
            refine zs_iN eX2_mostPoints_126 zs51 (j := oD D s i) (by omega) (by omega) ?_
            refine z_incN7 eX2_mostPoints_127 zn0 (by omega) (by omega) ?_
            refine z_incN8 eX2_mostPoints_130 zn0 (by omega) (by omega) ?_
            refine z_goto eX2_mostPoints_133 rfl ?_
            refine z_fg9 ?_
            have e : cntTo D s left (i + 1) = cntTo D s left i + 1 := by
              have e1 : cntTo D s left (i + 1) = cntTo D s left i + bv left (oD D s i) := rfl
              rw [e1]
              unfold bv
              rw [tb]
              rfl
            rw [← e]
            refine ih (r - 1) (by omega) (i + 1) _ (hfr.up _ _) (by omega) (fun k hk => ?_)
            by_cases z : k = oD D s i
            · subst z
              rw [zup_at]
              unfold ptm
              rw [if_pos tb, hPi, if_pos (by omega)]
            · rw [zup_ne (by omega), htl k hk]
              unfold ptm
              split
              · next z1 =>
                have hk2 := tb_lt hl z1
                have hP := hp s k hs hk2
                have hne : ¬ P s k = i := fun q => by
                  rw [q] at hP
                  exact z hP.2.1.symm
                by_cases z2 : P s k < i
                · rw [if_pos z2, if_pos (by omega)]
                · rw [if_neg z2, if_neg (by omega)]
              · rfl
theorem x_pts_m (D w : Nat → Int) (hb : dB D) (hvb : vB D w) (left : Nat) (hl : left < 2 ^ nN D) (c : Nat) (hc : c < 4) (va : Nat) (f8 mnn : Int) (h g : zHp) (hfr : zFr 51 h g) (hgN : g 4 0 = (nN D : Int)) (htl : ∀ k : Nat, k < 8 → g 51 k = ptl D w left c (nS D) k) : ∀ (r k : Nat), k + r = nN D → zRW mX2_mostPoints 1 (0, 0) 148 [zA 50, zI left, zA va, zI c, zI f8, zI mnn, zI (mxN (g 51) k), zI k, zU, zU] [] 143 g (zqi (fun v h' => (greatOf (cntP D w left c) left (nN D) : Int) = v ∧ zFr 51 h h')) := by
  have hN8 := nN_le hb
  have h256 := p2_256 hb hl
  intro r
  induction r using Nat.strongRecOn with
  | ind r ih =>
    intro k hk
    refine z_il7 eX2_mostPoints_148 ?_
    refine z_al0 eX2_mostPoints_150 ?_
    refine z_ga eX2_mostPoints_151 fX2_21 zs50 (t := 4) rfl ?_
    refine z_gi eX2_mostPoints_154 fX2_39 zs4 ?_
    refine z_cge eX2_mostPoints_157 rfl (fun c157 => ?_) (fun c157 => ?_)
    · refine z_al0 eX2_mostPoints_180 ?_
      refine z_il1 eX2_mostPoints_181 ?_
      refine z_il6 eX2_mostPoints_182 ?_
      refine zc_vi2 eX2_mostPoints_184 lX2_93 tX2_withAtLeast zs50 (by decide) (Nat.le_of_ble_eq_true rfl) (x_withAtLeast g (nN D) left _ hgN hN8 h256) ?_
      rintro _ _ ⟨rfl, rfl⟩ -
      refine ze_i eX2_mostPoints_187 rfl ?_
      have e : k = nN D := by omega
      subst e
      exact ⟨by rw [atLeast_great (c := cntP D w left c) (fun k hk => by rw [htl k (by omega)]; unfold ptl cntP; split <;> rfl) (fun k hk hs => by unfold cntP; rw [if_pos hs]; exact (ptl_b hb hvb hc left k (nS D) (Nat.le_refl _)).1)], hfr⟩
    · refine z_il6 eX2_mostPoints_160 ?_
      refine z_al0 eX2_mostPoints_162 ?_
      refine z_ga eX2_mostPoints_163 fX2_9 zs50 (t := 51) rfl ?_
      refine z_il7 eX2_mostPoints_166 ?_
      refine zr_iN eX2_mostPoints_168 zs51 (j := k) (by omega) (by omega) ?_
      refine z_max eX2_mostPoints_169 lX2_87 (by decide) (Nat.le_of_ble_eq_true rfl) ?_
      refine z_is6 eX2_mostPoints_172 zn0 ?_
      refine z_incN7 eX2_mostPoints_174 zn0 (by omega) (by omega) ?_
      refine z_goto eX2_mostPoints_177 rfl ?_
      exact ih (r - 1) (by omega) (k + 1) (by omega)
theorem x_pts_s (D w : Nat → Int) (P : Nat → Nat → Nat) (hb : dB D) (hp : pB D P) (hvb : vB D w) (va : Nat) (hva : zSH[va]? = some (20, 20)) (hv51 : ¬ va = 51) (h : zHp) (hx : hX h D P) (hw : h va = w) (left : Nat) (hl : left < 2 ^ nN D) (c : Nat) (hc : c < 4) (mn : Nat) (hmn : mn ≤ 8) (hm : h 26 c = (mn : Int)) (hpt : ∀ i : Nat, i < mn → h 27 (8 * c + i) = eachP D c i) (hez : ∀ q : Int, mn ≤ q → eachP D c q = 0) : ∀ (r s : Nat) (g : zHp), zFr 51 h g → s + r = nS D → (∀ k : Nat, k < 8 → g 51 k = ptl D w left c s k) → zRW mX2_mostPoints 1 (0, 0) 28 [zA 50, zI left, zA va, zI c, zI (8 * c : Nat), zI mn, zI s, zU, zU, zU] [] 143 g (zqi (fun v h' => (greatOf (cntP D w left c) left (nN D) : Int) = v ∧ zFr 51 h h')) := by
  have hN := nN_eq hb
  have hN8 := nN_le hb
  have hS := nS_eq hb
  have hS20 := nS_le hb
  have h256 := p2_256 hb hl
  intro r
  induction r using Nat.strongRecOn with
  | ind r ih =>
    intro s g hfr hs htl
    obtain ⟨x0, x1, x2, x3⟩ := hx.fr hfr (by decide)
    refine z_il6 eX2_mostPoints_28 ?_
    refine z_al0 eX2_mostPoints_30 ?_
    refine z_ga eX2_mostPoints_31 fX2_21 zs50 (t := 4) rfl ?_
    refine z_gi eX2_mostPoints_34 fX2_78 zs4 ?_
    refine z_cge eX2_mostPoints_37 rfl (fun c37 => ?_) (fun c37 => ?_)
    · refine z_ki eX2_mostPoints_142 ?_
      refine z_is6 eX2_mostPoints_143 zn0 ?_
      refine z_ki eX2_mostPoints_145 ?_
      refine z_is7 eX2_mostPoints_146 zn0 ?_
      have e : s = nS D := by omega
      subst e
      exact x_pts_m D w hb hvb left hl c hc va _ _ h g hfr (by rw [x0]; exact hN) htl _ 0 (Nat.zero_add _)
    · refine z_ki eX2_mostPoints_40 ?_
      refine z_is7 eX2_mostPoints_41 zn0 ?_
      refine z_ki eX2_mostPoints_43 ?_
      refine z_is8 eX2_mostPoints_44 zn0 ?_
      refine x_pts_i D w P hb hp hvb va hva hv51 h hx hw left hl c hc mn hmn hm hpt hez s (by omega) _ (fun g2 hfr2 htl2 => ?_) _ 0 g hfr (Nat.zero_add _) (fun k hk => by rw [htl k hk]; unfold ptl ptm; split; (rw [if_neg (by omega), Int.add_zero]); rfl)
      refine z_incN6 eX2_mostPoints_136 zn0 (by omega) (by omega) ?_
      refine z_goto eX2_mostPoints_139 rfl ?_
      exact ih (r - 1) (by omega) (s + 1) g2 hfr2 (by omega) htl2
theorem x_pts (D w : Nat → Int) (P : Nat → Nat → Nat) (hb : dB D) (hp : pB D P) (hvb : vB D w) (va : Nat) (hva : zSH[va]? = some (20, 20)) (hv51 : ¬ va = 51) (h : zHp) (hx : hX h D P) (hw : h va = w) (left : Nat) (hl : left < 2 ^ nN D) (c : Nat) (hc : c < 4) (mn : Nat) (hmn : mn ≤ 8) (hm : h 26 c = (mn : Int)) (hpt : ∀ i : Nat, i < mn → h 27 (8 * c + i) = eachP D c i) (hez : ∀ q : Int, mn ≤ q → eachP D c q = 0) : zCi mX2_mostPoints 1 [zA 50, zI left, zA va, zI c] h (fun v h' => (greatOf (cntP D w left c) left (nN D) : Int) = v ∧ zFr 51 h h') := by
  refine z_enter [zA 50, zI left, zA va, zI c, zU, zU, zU, zU, zU, zU] (by decide +kernel) (Nat.le_of_ble_eq_true rfl) rfl (fun hra hrg => ?_)
  refine z_al0 eX2_mostPoints_0 ?_
  refine z_ga eX2_mostPoints_1 fX2_9 zs50 (t := 51) rfl ?_
  refine z_ki eX2_mostPoints_4 ?_
  refine zc_sv2 eX2_mostPoints_5 lX2_72 tJ7_fill_53178 (by decide) (Nat.le_of_ble_eq_true rfl) (j_fill _ 51 8 0 zs51 (by decide)) ?_
  rintro _ rfl
  refine z_il3 eX2_mostPoints_8 ?_
  refine z_ki eX2_mostPoints_9 ?_
  refine z_imulN eX2_mostPoints_11 (by omega) (by omega) ?_
  rw [show (c : Int) * 8 = ((8 * c : Nat) : Int) by omega]
  refine z_is4 eX2_mostPoints_12 zn0 ?_
  refine z_al0 eX2_mostPoints_14 ?_
  refine z_ga eX2_mostPoints_15 fX2_25 zs50 (t := 24) rfl ?_
  refine z_ga eX2_mostPoints_18 fX2_66 zs24 (t := 26) rfl ?_
  refine z_il3 eX2_mostPoints_21 ?_
  refine zr_iN eX2_mostPoints_22 zs26 (j := c) (by omega) (by omega) ?_
  rw [zfill_off (by decide), hm]
  refine z_is5 eX2_mostPoints_23 zn0 ?_
  refine z_ki eX2_mostPoints_25 ?_
  refine z_is6 eX2_mostPoints_26 zn0 ?_
  exact x_pts_s D w P hb hp hvb va hva hv51 h hx hw left hl c hc mn hmn hm hpt hez _ 0 _ (fun a ha => zfill_off ha) (Nat.zero_add _) (fun k hk => by rw [zfill_on hk]; unfold ptl sumN; simp)
