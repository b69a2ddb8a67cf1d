-- the class runs down (written by wip/tools/specX4.py)
theorem fst_excl {D : Nat → Int} {P : Nat → Nat → Nat} (hb : dB D) (hp : pB D P) {w : Nat → Int} (hvb : vB D w) {set a b : Nat} (ha : a < nN D) (hbb : b < nN D) (hab : ¬ a = b) (h1 : set.testBit a = true) (h2 : set.testBit b = true) {s : Nat} (hs : s < nS D) : fstS D w a set s + fstS D w b set s ≤ w s := by
  have hv := hvb s hs
  unfold fstS
  by_cases e1 : plc D s a set = 0
  · by_cases e2 : plc D s b set = 0
    · exfalso
      rw [plc_cnt hb hp hs ha, cntTo_0] at e1
      rw [plc_cnt hb hp hs hbb, cntTo_0] at e2
      have q1 := hp s a hs ha
      have q2 := hp s b hs hbb
      rcases Nat.lt_trichotomy (P s a) (P s b) with q | q | q
      · have := e2 _ q
        rw [q1.2.1, h1] at this
        cases this
      · exact hab (by rw [← q1.2.1, ← q2.2.1, q])
      · have := e1 _ q
        rw [q2.2.1, h2] at this
        cases this
    · rw [if_pos e1, if_neg e2]
      omega
  · rw [if_neg e1]
    split <;> omega
theorem sumN_add (f g : Nat → Int) (n : Nat) : sumN (fun k => f k + g k) n = sumN f n + sumN g n := by
  induction n with
  | zero => rfl
  | succ n ih => simp only [sumN, ih]; omega
theorem sumN_le {f g : Nat → Int} (n : Nat) (h : ∀ k, k < n → f k ≤ g k) : sumN f n ≤ sumN g n := by
  induction n with
  | zero => exact Int.le_refl _
  | succ n ih =>
    have h1 := ih (fun k hk => h k (by omega))
    have h2 := h n (by omega)
    simp only [sumN]
    omega
theorem maj_one {D : Nat → Int} {P : Nat → Nat → Nat} (hb : dB D) (hp : pB D P) {w : Nat → Int} (hvb : vB D w) {set a b : Nat} (ha : a < nN D) (hbb : b < nN D) (h1 : set.testBit a = true) (h2 : set.testBit b = true) (m1 : sumN w (nS D) < 2 * cntO D w set a) (m2 : sumN w (nS D) < 2 * cntO D w set b) : a = b := by
  rcases Decidable.em (a = b) with e | e
  · exact e
  · have q1 := sumN_add (fstS D w a set) (fstS D w b set) (nS D)
    have q2 := sumN_le (f := fun s => fstS D w a set s + fstS D w b set s) (g := w) (nS D) (fun s hs => fst_excl hb hp hvb ha hbb e h1 h2 hs)
    have q3 : cntO D w set a = sumN (fstS D w a set) (nS D) := rfl
    have q4 : cntO D w set b = sumN (fstS D w b set) (nS D) := rfl
    omega
theorem majF_of {c : Nat → Int} {V : Int} {set m : Nat} (hm : set.testBit m = true ∧ V < 2 * c m) : ∀ (r k : Nat), k ≤ m → m < k + r → (∀ j, j < k + r → set.testBit j = true → V < 2 * c j → j = m) → majF c V set r k = (m : Int) := by
  intro r
  induction r with
  | zero => intro k h1 h2; omega
  | succ r ih =>
    intro k h1 h2 h3
    rw [majF]
    split
    · next q => rw [h3 k (by omega) q.1 q.2]
    · next q => exact ih (k + 1) (by rcases Decidable.em (k = m) with e | e; (subst e; exact absurd hm q); omega) (by omega) (fun j hj => h3 j (by omega))
theorem majF_none {c : Nat → Int} {V : Int} {set : Nat} : ∀ (r k : Nat), (∀ j, j < k + r → set.testBit j = true → ¬ V < 2 * c j) → majF c V set r k = -1 := by
  intro r
  induction r with
  | zero => intro k _; rfl
  | succ r ih =>
    intro k h
    rw [majF, if_neg (fun q => h k (by omega) q.1 q.2)]
    exact ih (k + 1) (fun j hj => h j (by omega))
/-- the one to go out of those up to n -/
def isL (D c : Nat → Int) (set n : Nat) (l : Int) : Prop := 0 ≤ l ∧ l < n ∧ set.testBit l.toNat = true ∧ ∀ j : Nat, j < n → set.testBit j = true → c l.toNat < c j ∨ (c l.toNat = c j ∧ D (11 + j) ≤ D (11 + l.toNat))
theorem lstF_isL (D c : Nat → Int) (set : Nat) : ∀ (r k : Nat) (l : Int), (isL D c set k l ∨ (l = -1 ∧ ∀ j, j < k → set.testBit j = false)) → (isL D c set (k + r) (lstF D c set r k l) ∨ (lstF D c set r k l = -1 ∧ ∀ j, j < k + r → set.testBit j = false)) := by
  intro r
  induction r with
  | zero => intro k l h; exact h
  | succ r ih =>
    intro k l h
    rw [lstF, show k + (r + 1) = k + 1 + r by omega]
    apply ih
    split
    · next q =>
      left
      refine ⟨by omega, by omega, by simpa using q.1, fun j hj hs => ?_⟩
      rw [Int.toNat_natCast]
      by_cases e : j = k
      · subst e; right; exact ⟨rfl, Int.le_refl _⟩
      · rcases h with ⟨h1, h2, h3, h4⟩ | ⟨h1, h2⟩
        · have := h4 j (by omega) hs
          have := q.2
          omega
        · rw [h2 j (by omega)] at hs
          cases hs
    · next q =>
      rcases h with ⟨h1, h2, h3, h4⟩ | ⟨h1, h2⟩
      · left
        refine ⟨h1, by omega, h3, fun j hj hs => ?_⟩
        by_cases e : j = k
        · subst e
          by_cases z : c l.toNat < c j
          · exact Or.inl z
          · have z2 : ¬ (l < 0 ∨ c j < c l.toNat ∨ (c j = c l.toNat ∧ D (11 + l.toNat) < D (11 + j))) := fun q' => q ⟨hs, q'⟩
            right
            omega
        · exact h4 j (by omega) hs
      · right
        refine ⟨h1, fun j hj => ?_⟩
        by_cases e : j = k
        · subst e
          cases z : set.testBit j with
          | false => rfl
          | true => exact absurd ⟨z, Or.inl (by omega)⟩ q
        · exact h2 j (by omega)
theorem isL_one {D c : Nat → Int} {set n : Nat} (hin : ∀ a b : Nat, a < n → b < n → D (11 + a) = D (11 + b) → a = b) {l m : Int} (h1 : isL D c set n l) (h2 : isL D c set n m) : l = m := by
  obtain ⟨a1, a2, a3, a4⟩ := h1
  obtain ⟨b1, b2, b3, b4⟩ := h2
  have q1 := a4 m.toNat (by omega) b3
  have q2 := b4 l.toNat (by omega) a3
  have := hin l.toNat m.toNat (by omega) (by omega) (by omega)
  omega
theorem hX.tin {h : zHp} {D : Nat → Int} {P : Nat → Nat → Nat} (hx : hX h D P) : ∀ a b : Nat, a < nN D → b < nN D → D (11 + a) = D (11 + b) → a = b := by
  intro a b ha hb he
  have h1 := (hx.2.2.2 a ha).2.2.2
  have h2 := (hx.2.2.2 b hb).2.2.2
  rw [he] at h1
  omega
/-- how far the class has come from the back: places from q on are seen -/
def seen (D c : Nat → Int) (V : Int) (set q : Nat) (l : Int) : Prop := (∀ k : Nat, k < nN D → set.testBit k = true → (q : Int) ≤ D (11 + k) → 2 * c k ≤ V) ∧ ((l = -1 ∧ ∀ k : Nat, k < nN D → set.testBit k = true → D (11 + k) < q) ∨ (0 ≤ l ∧ l < nN D ∧ set.testBit l.toNat = true ∧ (q : Int) ≤ D (11 + l.toNat) ∧ ∀ k : Nat, k < nN D → set.testBit k = true → (q : Int) ≤ D (11 + k) → c l.toNat < c k ∨ (c l.toNat = c k ∧ D (11 + k) ≤ D (11 + l.toNat))))
theorem x_run_i (D w : Nat → Int) (P : Nat → Nat → Nat) (hb : dB D) (hvb : vB D w) (va : Nat) (V : Int) (left0 rd : Int) (set : Nat) (hset : set < 2 ^ nN D) (Q : Int → zHp → Prop) (g : zHp) (hx : hX g D P) (hcn : ∀ k : Nat, k < 8 → set.testBit k = true → g 51 k = cntO D w set k) (kM : ∀ m : Nat, m < nN D → set.testBit m = true → V < 2 * cntO D w set m → Q ((2 ^ m : Nat) : Int) g) (kE : ∀ l : Int, seen D (cntO D w set) V set 0 l → zRW mX2_runOff 1 (0, 0) 128 [zA 50, zI left0, zA va, zI set, zI rd, zI V, zI l, zI (-1), zU] [] 143 g (zqi Q)) : ∀ (q : Nat) (l : Int), q ≤ nN D → seen D (cntO D w set) V set q l → zRW mX2_runOff 1 (0, 0) 42 [zA 50, zI left0, zA va, zI set, zI rd, zI V, zI l, zI ((q : Int) - 1), zU] [] 143 g (zqi Q) := by
  have hN := nN_eq hb
  have hN8 := nN_le hb
  have h256 := p2_256 hb hset
  obtain ⟨x0, x1, x2, x3⟩ := id hx
  intro q
  induction q using Nat.strongRecOn with
  | ind q ih =>
    intro l hq hsn
    refine z_il7 eX2_runOff_42 ?_
    refine z_ilt eX2_runOff_44 rfl (fun c44 => ?_) (fun c44 => ?_)
    · have e : q = 0 := by omega
      subst e
      exact kE l hsn
    · have hti := x3 (q - 1) (by omega)
      obtain ⟨nm, hnm⟩ : ∃ nm : Nat, g 7 (q - 1) = (nm : Int) := ⟨(g 7 (q - 1)).toNat, by omega⟩
      have hnm8 : nm < nN D := by omega
      have htn : D (11 + nm) = (q : Int) - 1 := by have := hti.2.2.1; rw [hnm, Int.toNat_natCast] at this; omega
      have hcb := fstOf_b hb hvb nm set
      have hcb2 : 0 ≤ cntO D w set nm ∧ cntO D w set nm ≤ 3960 := hcb
      have inj : ∀ k : Nat, k < nN D → D (11 + k) = (q : Int) - 1 → k = nm := fun k hk he => hx.tin k nm hk hnm8 (by omega)
      refine z_al0 eX2_runOff_47 ?_
      refine z_ga eX2_runOff_48 fX2_21 zs50 (t := 4) rfl ?_
      refine z_ga eX2_runOff_51 fX2_44 zs4 (t := 7) rfl ?_
      refine z_il7 eX2_runOff_54 ?_
      refine zr_iN eX2_runOff_56 zs7 (j := q - 1) (by omega) (by omega) ?_
      refine z_is8 eX2_runOff_57 zn0 ?_
      rw [hnm]
      refine z_il3 eX2_runOff_59 ?_
      refine z_il8 eX2_runOff_60 ?_
      refine z_ishr eX2_runOff_62 ?_
      refine z_ki eX2_runOff_63 ?_
      refine z_iand eX2_runOff_64 ?_
      refine z_ine eX2_runOff_65 rfl (fun c65 => ?_) (fun c65 => ?_)
      · rw [kb_b0 (by omega) (by omega)] at c65
        have tb : set.testBit nm = true := by simpa using c65
        have hcm := hcn nm (by omega) tb
        refine z_al0 eX2_runOff_71 ?_
        refine z_ga eX2_runOff_72 fX2_9 zs50 (t := 51) rfl ?_
        refine z_il8 eX2_runOff_75 ?_
        refine zr_iN eX2_runOff_77 zs51 (j := nm) (by omega) (by omega) ?_
        refine z_ki eX2_runOff_78 ?_
        refine z_imulN eX2_runOff_79 (by omega) (by omega) ?_
        refine z_il5 eX2_runOff_80 ?_
        refine z_cle eX2_runOff_82 rfl (fun c82 => ?_) (fun c82 => ?_)
        · refine z_il6 eX2_runOff_90 ?_
          refine z_ki eX2_runOff_92 ?_
          refine z_ceq eX2_runOff_93 rfl (fun c93 => ?_) (fun c93 => ?_)
          · refine z_il8 eX2_runOff_113 ?_
            refine z_goto eX2_runOff_115 rfl ?_
            refine z_is6 eX2_runOff_120 zn0 ?_
            refine z_incN7 eX2_runOff_122 zn0 (by omega) (by omega) ?_
            refine z_goto eX2_runOff_125 rfl ?_
            refine z_fg8 ?_
            rw [show (q : Int) - 1 + -1 = ((q - 1 : Nat) : Int) - 1 by omega]
            refine ih (q - 1) (by omega) _ (by omega) ⟨fun k hk hs hle => ?_, ?_⟩
            · by_cases e : D (11 + k) = (q : Int) - 1
              · rw [inj k hk e]
                omega
              · exact hsn.1 k hk hs (by omega)
            · right
              refine ⟨by omega, by omega, by simpa using tb, by rw [Int.toNat_natCast]; omega, fun k hk hs hle => ?_⟩
              rw [Int.toNat_natCast]
              by_cases e : D (11 + k) = (q : Int) - 1
              · rw [inj k hk e]
                right
                exact ⟨rfl, Int.le_refl _⟩
              · rcases hsn.2 with z | z
                · have := z.2 k hk hs
                  omega
                · have := z.2.2.2.2 k hk hs (by omega)
                  exact absurd c93 (by omega)
          · have hl0 : 0 ≤ l ∧ l < nN D ∧ set.testBit l.toNat = true := by rcases hsn.2 with z | z; (exact absurd z.1 c93); exact ⟨z.1, z.2.1, z.2.2.1⟩
            have hcl := hcn l.toNat (by omega) hl0.2.2
            refine z_al0 eX2_runOff_96 ?_
            refine z_ga eX2_runOff_97 fX2_9 zs50 (t := 51) rfl ?_
            refine z_il8 eX2_runOff_100 ?_
            refine zr_iN eX2_runOff_102 zs51 (j := nm) (by omega) (by omega) ?_
            refine z_al0 eX2_runOff_103 ?_
            refine z_ga eX2_runOff_104 fX2_9 zs50 (t := 51) rfl ?_
            refine z_il6 eX2_runOff_107 ?_
            refine zr_iN eX2_runOff_109 zs51 (j := l.toNat) (by omega) (by omega) ?_
            refine z_cge eX2_runOff_110 rfl (fun c110 => ?_) (fun c110 => ?_)
            · refine z_il6 eX2_runOff_118 ?_
              refine z_is6 eX2_runOff_120 zn0 ?_
              refine z_incN7 eX2_runOff_122 zn0 (by omega) (by omega) ?_
              refine z_goto eX2_runOff_125 rfl ?_
              refine z_fg8 ?_
              rw [show (q : Int) - 1 + -1 = ((q - 1 : Nat) : Int) - 1 by omega]
              refine ih (q - 1) (by omega) _ (by omega) ⟨fun k hk hs hle => ?_, ?_⟩
              · by_cases e : D (11 + k) = (q : Int) - 1
                · rw [inj k hk e]
                  omega
                · exact hsn.1 k hk hs (by omega)
              · right
                rcases hsn.2 with z | z
                · exact absurd z.1 c93
                · refine ⟨z.1, z.2.1, z.2.2.1, by have := z.2.2.2.1; omega, fun k hk hs hle => ?_⟩
                  by_cases e : D (11 + k) = (q : Int) - 1
                  · rw [inj k hk e]
                    have := z.2.2.2.1
                    omega
                  · exact z.2.2.2.2 k hk hs (by omega)
            · refine z_il8 eX2_runOff_113 ?_
              refine z_goto eX2_runOff_115 rfl ?_
              refine z_is6 eX2_runOff_120 zn0 ?_
              refine z_incN7 eX2_runOff_122 zn0 (by omega) (by omega) ?_
              refine z_goto eX2_runOff_125 rfl ?_
              refine z_fg8 ?_
              rw [show (q : Int) - 1 + -1 = ((q - 1 : Nat) : Int) - 1 by omega]
              refine ih (q - 1) (by omega) _ (by omega) ⟨fun k hk hs hle => ?_, ?_⟩
              · by_cases e : D (11 + k) = (q : Int) - 1
                · rw [inj k hk e]
                  omega
                · exact hsn.1 k hk hs (by omega)
              · right
                refine ⟨by omega, by omega, by simpa using tb, by rw [Int.toNat_natCast]; omega, fun k hk hs hle => ?_⟩
                rw [Int.toNat_natCast]
                by_cases e : D (11 + k) = (q : Int) - 1
                · rw [inj k hk e]
                  right
                  exact ⟨rfl, Int.le_refl _⟩
                · rcases hsn.2 with z | z
                  · have := z.2 k hk hs
                    omega
                  · have := z.2.2.2.2 k hk hs (by omega)
                    omega
        · refine z_ki eX2_runOff_85 ?_
          refine z_il8 eX2_runOff_86 ?_
          refine z_ishl eX2_runOff_88 ?_
          refine ze_i eX2_runOff_89 rfl ?_
          rw [kb_shl1 (by omega)]
          exact kM nm hnm8 tb (by omega)
      · refine z_goto eX2_runOff_68 rfl ?_
        refine z_incN7 eX2_runOff_122 zn0 (by omega) (by omega) ?_
        refine z_goto eX2_runOff_125 rfl ?_
        refine z_fg8 ?_
        rw [show (q : Int) - 1 + -1 = ((q - 1 : Nat) : Int) - 1 by omega]
        refine ih (q - 1) (by omega) _ (by omega) ⟨fun k hk hs hle => ?_, ?_⟩
        · rw [kb_b0 (by omega) (by omega)] at c65
          by_cases e : D (11 + k) = (q : Int) - 1
          · rw [inj k hk e, c65] at hs
            cases hs
          · exact hsn.1 k hk hs (by omega)
        · rw [kb_b0 (by omega) (by omega)] at c65
          rcases hsn.2 with z | z
          · left
            refine ⟨z.1, fun k hk hs => ?_⟩
            have := z.2 k hk hs
            by_cases e : D (11 + k) = (q : Int) - 1
            · rw [inj k hk e, c65] at hs
              cases hs
            · omega
          · right
            refine ⟨z.1, z.2.1, z.2.2.1, by have := z.2.2.2.1; omega, fun k hk hs hle => ?_⟩
            by_cases e : D (11 + k) = (q : Int) - 1
            · rw [inj k hk e, c65] at hs
              cases hs
            · exact z.2.2.2.2 k hk hs (by omega)
theorem x_run_o (D w : Nat → Int) (P : Nat → Nat → Nat) (hb : dB D) (hp : pB D P) (hvb : vB D w) (va : Nat) (hva : zSH[va]? = some (20, 20)) (hv51 : ¬ va = 51) (h : zHp) (hx : hX h D P) (hw : h va = w) (left0 : Int) : ∀ (f rd set : Nat) (g : zHp), rd + f = 8 → set < 2 ^ nN D → popc set ≤ f + 1 → zFr 51 h g → zRW mX2_runOff 1 (0, 0) 5 [zA 50, zI left0, zA va, zI set, zI rd, zU, zU, zU, zU] [] 143 g (zqi (fun v h' => (runF D w (sumN w (nS D)) f set : Int) = v ∧ zFr 51 h h')) := by
  have hN := nN_eq hb
  have hN8 := nN_le hb
  intro f
  induction f using Nat.strongRecOn with
  | ind f ih =>
    intro rd set g hrd hset hpc hfr
    have h256 := p2_256 hb hset
    have hxg := hx.fr hfr (by decide)
    have hwg : g va = w := (hfr va hv51).trans hw
    refine z_il4 eX2_runOff_5 ?_
    refine z_ki eX2_runOff_7 ?_
    refine z_cge eX2_runOff_9 rfl (fun c9 => ?_) (fun c9 => ?_)
    · refine z_il3 eX2_runOff_153 ?_
      refine ze_i eX2_runOff_154 rfl ?_
      have e : f = 0 := by omega
      subst e
      exact ⟨rfl, hfr⟩
    · refine z_il3 eX2_runOff_12 ?_
      refine zc_si1 eX2_runOff_13 lX2_47 tJ6_bitCount_0f7a4 (by decide) (Nat.le_of_ble_eq_true rfl) (j_bit _ set h256) ?_
      rintro _ _ ⟨rfl, rfl⟩ -
      refine z_ki eX2_runOff_16 ?_
      refine z_cle eX2_runOff_17 rfl (fun c17 => ?_) (fun c17 => ?_)
      · refine z_il3 eX2_runOff_153 ?_
        refine ze_i eX2_runOff_154 rfl ?_
        exact ⟨by rw [runF_stop D w _ f set (by omega)], hfr⟩
      · refine z_al0 eX2_runOff_20 ?_
        refine z_il3 eX2_runOff_21 ?_
        refine z_al2 eX2_runOff_22 ?_
        refine zc_vi2 eX2_runOff_23 lX2_96 tX2_tallyFirsts zs50 (by decide) (Nat.le_of_ble_eq_true rfl) (x_tally D w P hb hp hvb va hva hv51 g hxg hwg set hset) ?_
        rintro _ g2 ⟨rfl, hfr1, htl⟩ -
        have hfr2 : zFr 51 h g2 := hfr.tr hfr1
        have hx2 := hx.fr hfr2 (by decide)
        have hgN : g2 4 0 = (nN D : Int) := by rw [hx2.1]; exact hN
        refine z_is5 eX2_runOff_26 zn0 ?_
        refine z_ki eX2_runOff_28 ?_
        refine z_is6 eX2_runOff_29 zn0 ?_
        refine z_al0 eX2_runOff_31 ?_
        refine z_ga eX2_runOff_32 fX2_21 zs50 (t := 4) rfl ?_
        refine z_gi eX2_runOff_35 fX2_39 zs4 ?_
        refine z_ki eX2_runOff_38 ?_
        refine z_isubN eX2_runOff_39 (by omega) (by omega) ?_
        rw [hgN]
        refine z_is7 eX2_runOff_40 zn0 ?_
        obtain ⟨f, rfl⟩ : ∃ q, f = q + 1 := ⟨f - 1, by omega⟩
        have hcn : ∀ k : Nat, k < 8 → set.testBit k = true → g2 51 k = cntO D w set k := fun k hk hs => by rw [htl k hk, tly_in hs]; rfl
        have hne : ¬ set = 0 := fun e => by subst e; exact absurd c17 (by decide)
        refine x_run_i D w P hb hvb va _ left0 rd set hset _ g2 hx2 hcn (fun m hm1 hm2 hm3 => ?_) (fun l hsn => ?_) (nN D) (-1) (Nat.le_refl _) ⟨fun k hk hs hle => ?_, Or.inl ⟨rfl, fun k hk hs => ?_⟩⟩
        · have e := majF_of (c := cntO D w set) (V := sumN w (nS D)) ⟨hm2, hm3⟩ (nN D) 0 (by omega) (by omega) (fun j hj hs hmj => maj_one hb hp hvb (by omega) hm1 hs hm2 hmj hm3)
          exact ⟨by rw [runF, if_neg (by omega), e, if_pos (by omega), Int.toNat_natCast], hfr2⟩
        · obtain ⟨hno, hl⟩ := hsn
          have hty : ∀ k : Nat, k < nN D → 0 ≤ D (11 + k) := fun k hk => (hb.2.2.2.2.2.1 k hk).2.2.1
          have hL : isL D (cntO D w set) set (nN D) l := by
            rcases hl with z | z
            · obtain ⟨j, hj1, hj2⟩ := bit_some hne hset
              have := z.2 j hj1 hj2
              have := hty j hj1
              omega
            · exact ⟨z.1, z.2.1, z.2.2.1, fun j hj hs => z.2.2.2.2 j hj hs (by have := hty j hj; omega)⟩
          have hM := lstF_isL D (cntO D w set) set (nN D) 0 (-1) (Or.inr ⟨rfl, fun j hj => by omega⟩)
          rw [Nat.zero_add] at hM
          have hle : lstF D (cntO D w set) set (nN D) 0 (-1) = l := by
            rcases hM with z | z
            · exact isL_one hx2.tin z hL
            · have := z.2 l.toNat (by have := hL.1; have := hL.2.1; omega)
              rw [hL.2.2.1] at this
              cases this
          have hmaj := majF_none (c := cntO D w set) (V := sumN w (nS D)) (set := set) (nN D) 0 (fun j hj hs q => by have := hno j (by omega) hs (by have := hty j (by omega); omega); omega)
          obtain ⟨ln, hln⟩ : ∃ ln : Nat, l = (ln : Int) := ⟨l.toNat, by have := hL.1; omega⟩
          have hln8 : ln < nN D := by have := hL.2.1; omega
          have htbl : set.testBit ln = true := by have := hL.2.2.1; rwa [hln, Int.toNat_natCast] at this
          have hrun : runF D w (sumN w (nS D)) (f + 1) set = runF D w (sumN w (nS D)) f (set ^^^ (set &&& 2 ^ ln)) := by rw [runF, if_neg (by omega), hmaj, if_neg (by omega), hle, hln, Int.toNat_natCast]
          refine z_il3 eX2_runOff_128 ?_
          refine z_il6 eX2_runOff_129 ?_
          refine z_ki eX2_runOff_131 ?_
          refine z_cne eX2_runOff_132 rfl (fun c132 => ?_) (fun c132 => ?_)
          · refine z_ki eX2_runOff_139 ?_
            refine z_il6 eX2_runOff_140 ?_
            rw [hln]
            refine z_ishl eX2_runOff_142 ?_
            rw [kb_shl1 (by omega)]
            refine z_ki eX2_runOff_143 ?_
            refine z_ixor eX2_runOff_144 ?_
            refine z_iand eX2_runOff_145 ?_
            refine z_is3 eX2_runOff_146 zn2 ?_
            refine z_incN4 eX2_runOff_147 zn0 (by omega) (by omega) ?_
            refine z_goto eX2_runOff_150 rfl ?_
            refine z_fg5 ?_
            refine z_fg6 ?_
            refine z_fg7 ?_
            rw [kb_andn (by omega), hrun]
            exact ih f (by omega) (rd + 1) _ g2 (by omega) (andn_lt hset _) (by rw [popc_less set h256 ln (by omega) htbl]; omega) hfr2
          · exact absurd c132 (by omega)
        · have := hb.2.2.2.2.2.1 k hk
          omega
        · have := hb.2.2.2.2.2.1 k hk
          omega
theorem x_run (D w : Nat → Int) (P : Nat → Nat → Nat) (hb : dB D) (hp : pB D P) (hvb : vB D w) (va : Nat) (hva : zSH[va]? = some (20, 20)) (hv51 : ¬ va = 51) (h : zHp) (hx : hX h D P) (hw : h va = w) (left : Nat) (hl : left < 2 ^ nN D) : zCi mX2_runOff 1 [zA 50, zI left, zA va] h (fun v h' => (runOf D w (sumN w (nS D)) left : Int) = v ∧ zFr 51 h h') := by
  refine z_enter [zA 50, zI left, zA va, zU, zU, zU, zU, zU, zU] (by decide +kernel) (Nat.le_of_ble_eq_true rfl) rfl (fun hra hrg => ?_)
  refine z_il1 eX2_runOff_0 ?_
  refine z_is3 eX2_runOff_1 zn2 ?_
  refine z_ki eX2_runOff_2 ?_
  refine z_is4 eX2_runOff_3 zn0 ?_
  exact x_run_o D w P hb hp hvb va hva hv51 h hx hw left 8 0 left h rfl hl (by have := (popc_b left (p2_256 hb hl)).2; omega) zFr.rf
