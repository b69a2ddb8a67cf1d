-- the reference runs down, sifts, tells who wins (written by wip/tools/specM3.py)
/-- nothing but cell c has changed -/
def zFr (c : Nat) (h g : zHp) : Prop := ∀ a : Nat, ¬ a = c → g a = h a
theorem zFr.rf {c : Nat} {h : zHp} : zFr c h h := fun _ _ => rfl
theorem zFr.up {c : Nat} {h g : zHp} (H : zFr c h g) (i : Nat) (v : Int) : zFr c h (zup g c i v) := fun a ha => by rw [zup_off ha]; exact H a ha
theorem zFr.tr {c : Nat} {h g f : zHp} (H : zFr c h g) (H2 : zFr c g f) : zFr c h f := fun a ha => (H2 a ha).trans (H a ha)
def cntO (D w : Nat → Int) (set : Nat) : Nat → Int := fun k => fstOf D w k set
def majF (c : Nat → Int) (V : Int) (set : Nat) : Nat → Nat → Int
  | 0, _ => -1
  | r + 1, k => if set.testBit k = true ∧ V < 2 * c k then k else majF c V set r (k + 1)
def lstB (D c : Nat → Int) (k : Nat) (l : Int) : Prop := l < 0 ∨ c k < c l.toNat ∨ (c k = c l.toNat ∧ D (11 + l.toNat) < D (11 + k))
theorem lstB_dec (D c : Nat → Int) (k : Nat) (l : Int) : lstB D c k l ∨ ¬ lstB D c k l := by
  unfold lstB
  omega
def lstF (D c : Nat → Int) (set : Nat) : Nat → Nat → Int → Int
  | 0, _, l => l
  | r + 1, k, l => lstF D c set r (k + 1) (if set.testBit k = true ∧ (l < 0 ∨ c k < c l.toNat ∨ (c k = c l.toNat ∧ D (11 + l.toNat) < D (11 + k))) then k else l)
def runF (D w : Nat → Int) (V : Int) : Nat → Nat → Nat
  | 0, set => set
  | f + 1, set => if popc set ≤ 1 then set else
      if 0 ≤ majF (cntO D w set) V set (nN D) 0 then 2 ^ (majF (cntO D w set) V set (nN D) 0).toNat
      else runF D w V f (set ^^^ (set &&& 2 ^ (lstF D (cntO D w set) set (nN D) 0 (-1)).toNat))
def runOf (D w : Nat → Int) (V : Int) (set : Nat) : Nat := runF D w V 8 set
theorem r_runDown_i (h : zHp) (D w : Nat → Int) (V : Int) (hb : dB D) (hvb : vB D w) (set0 : Int) (set : Nat) (hset : set < 256) (Q : Int → zHp → Prop) : ∀ (r k : Nat) (l : Int) (g : zHp), g 122 = D → g 124 = w → g 117 25 = V → k + r = nN D → (-1 ≤ l ∧ l < k) → (∀ j : Nat, j < k → set.testBit j = true → g 125 j = cntO D w set j) → (0 ≤ l → set.testBit l.toNat = true) → zFr 125 h g →
    (∀ g', zFr 125 h g' → 0 ≤ majF (cntO D w set) V set r k → Q ((2 ^ (majF (cntO D w set) V set r k).toNat : Nat) : Int) g') →
    (∀ g', zFr 125 h g' → g' 122 = D → g' 124 = w → g' 117 25 = V → ¬ 0 ≤ majF (cntO D w set) V set r k → zRW mX12_runDown 3 (0, 0) 140 [zA 117, zI set0, zI set, zI (lstF D (cntO D w set) set r k l), zI (nN D)] [] 143 g' (zqi Q)) → zRW mX12_runDown 3 (0, 0) 15 [zA 117, zI set0, zI set, zI l, zI k] [] 143 g (zqi Q) := by
  intro r
  induction r using Nat.strongRecOn with
  | ind r ih =>
    intro k l g hg1 hg2 hg3 hk hl hcn hlb hfr kM kE
    have hN := nN_eq hb
    have hN8 := nN_le hb
    have hcb := fstOf_b hb hvb
    have hgN : g 122 0 = (nN D : Int) := by rw [hg1]; exact hN
    refine z_il4 eX12_runDown_15 ?_
    refine z_al0 eX12_runDown_17 ?_
    refine z_ga eX12_runDown_18 fX12_35 zs117 (t := 122) rfl ?_
    refine z_ki eX12_runDown_21 ?_
    refine zr_iN eX12_runDown_22 zs122 (j := 0) (by omega) (by omega) ?_
    refine z_cge eX12_runDown_23 rfl (fun c23 => ?_) (fun c23 => ?_)
    · have e : r = 0 := by omega
      subst e
      have ek : k = nN D := by omega
      subst ek
      exact kE g hfr hg1 hg2 hg3 (by simp [majF])
    · obtain ⟨q, rfl⟩ : ∃ q, r = q + 1 := ⟨r - 1, by omega⟩
      refine z_il2 eX12_runDown_26 ?_
      refine z_il4 eX12_runDown_27 ?_
      refine z_ishr eX12_runDown_29 ?_
      refine z_ki eX12_runDown_30 ?_
      refine z_iand eX12_runDown_31 ?_
      refine z_ine eX12_runDown_32 rfl (fun c32 => ?_) (fun c32 => ?_)
      · refine z_al0 eX12_runDown_38 ?_
        refine z_ga eX12_runDown_39 fX12_44 zs117 (t := 125) rfl ?_
        refine z_il4 eX12_runDown_42 ?_
        refine z_al0 eX12_runDown_44 ?_
        refine z_il4 eX12_runDown_45 ?_
        refine z_il2 eX12_runDown_47 ?_
        refine zc_vi2 eX12_runDown_48 lX12_302 tX12_firstsOf zs117 (by decide) (Nat.le_of_ble_eq_true rfl) (r_firstsOf _ _ _ hg1 hg2 hb hvb k set (by omega)) ?_
        rintro _ _ ⟨rfl, rfl⟩ -
        refine zs_iN eX12_runDown_51 zs125 (j := k) (by omega) (by omega) ?_
        rw [kb_b0 (by omega) (by omega)] at c32
        have tb : set.testBit k = true := by simpa using c32
        have b1 := hcb k set
        have hfr1 := hfr.up k (fstOf D w (k : Int) set)
        have n1 : zup g 125 k (fstOf D w (k : Int) set) 122 = D := (zup_off (by decide)).trans hg1
        have n2 : zup g 125 k (fstOf D w (k : Int) set) 124 = w := (zup_off (by decide)).trans hg2
        have n3 : zup g 125 k (fstOf D w (k : Int) set) 117 25 = V := by rw [zup_off (by decide)]; exact hg3
        have n4 : zup g 125 k (fstOf D w (k : Int) set) 125 k = cntO D w set k := zup_at _ _ _ _
        have n5 : ∀ j : Nat, j < k → set.testBit j = true → zup g 125 k (fstOf D w (k : Int) set) 125 j = cntO D w set j := fun j hj hs => by rw [zup_ne (by omega)]; exact hcn j hj hs
        have n7 : 0 ≤ cntO D w set k ∧ cntO D w set k ≤ 3960 := b1
        generalize zup g 125 k (fstOf D w (k : Int) set) = g1 at hfr1 n1 n2 n3 n4 n5 ⊢
        have n6 : 0 ≤ l → g1 125 l.toNat = cntO D w set l.toNat := fun h0 => n5 _ (by omega) (hlb h0)
        refine z_ki eX12_runDown_52 ?_
        refine z_al0 eX12_runDown_53 ?_
        refine z_ga eX12_runDown_54 fX12_44 zs117 (t := 125) rfl ?_
        refine z_il4 eX12_runDown_57 ?_
        refine zr_iN eX12_runDown_59 zs125 (j := k) (by omega) (by omega) ?_
        refine z_imulN eX12_runDown_60 (by omega) (by omega) ?_
        refine z_al0 eX12_runDown_61 ?_
        refine z_gi eX12_runDown_62 fX12_284 zs117 ?_
        refine z_cle eX12_runDown_65 rfl (fun c65 => ?_) (fun c65 => ?_)
        · refine z_il3 eX12_runDown_73 ?_
          refine z_ilt eX12_runDown_74 rfl (fun c74 => ?_) (fun c74 => ?_)
          · refine z_il4 eX12_runDown_131 ?_
            refine z_is3 eX12_runDown_133 zn0 ?_
            refine z_incN4 eX12_runDown_134 zn0 (by omega) (by omega) ?_
            refine z_goto eX12_runDown_137 rfl ?_
            have hm : majF (cntO D w set) V set (q + 1) k = majF (cntO D w set) V set q (k + 1) := by rw [majF, if_neg (by omega)]
            rw [hm] at kM kE
            have hcn1 : ∀ j : Nat, j < k + 1 → set.testBit j = true → g1 125 j = cntO D w set j := fun j hj hs => by
              rcases Nat.lt_succ_iff_lt_or_eq.mp hj with h1 | h1
              · exact n5 j h1 hs
              · rw [h1]; exact n4
            have hq : lstF D (cntO D w set) set (q + 1) k l = lstF D (cntO D w set) set q (k + 1) k := by rw [lstF, if_pos ⟨tb, by omega⟩]
            rw [hq] at kE
            exact ih q (by omega) (k + 1) k g1 n1 n2 n3 (by omega) (by omega) hcn1 (fun _ => tb) hfr1 kM kE
          · refine z_al0 eX12_runDown_77 ?_
            refine z_ga eX12_runDown_78 fX12_44 zs117 (t := 125) rfl ?_
            refine z_il4 eX12_runDown_81 ?_
            refine zr_iN eX12_runDown_83 zs125 (j := k) (by omega) (by omega) ?_
            refine z_al0 eX12_runDown_84 ?_
            refine z_ga eX12_runDown_85 fX12_44 zs117 (t := 125) rfl ?_
            refine z_il3 eX12_runDown_88 ?_
            refine zr_iN eX12_runDown_89 zs125 (j := l.toNat) (by omega) (by omega) ?_
            refine z_clt eX12_runDown_90 rfl (fun c90 => ?_) (fun c90 => ?_)
            · refine z_il4 eX12_runDown_131 ?_
              refine z_is3 eX12_runDown_133 zn0 ?_
              refine z_incN4 eX12_runDown_134 zn0 (by omega) (by omega) ?_
              refine z_goto eX12_runDown_137 rfl ?_
              have hm : majF (cntO D w set) V set (q + 1) k = majF (cntO D w set) V set q (k + 1) := by rw [majF, if_neg (by omega)]
              rw [hm] at kM kE
              have hcn1 : ∀ j : Nat, j < k + 1 → set.testBit j = true → g1 125 j = cntO D w set j := fun j hj hs => by
                rcases Nat.lt_succ_iff_lt_or_eq.mp hj with h1 | h1
                · exact n5 j h1 hs
                · rw [h1]; exact n4
              have hq : lstF D (cntO D w set) set (q + 1) k l = lstF D (cntO D w set) set q (k + 1) k := by rw [lstF, if_pos ⟨tb, by omega⟩]
              rw [hq] at kE
              exact ih q (by omega) (k + 1) k g1 n1 n2 n3 (by omega) (by omega) hcn1 (fun _ => tb) hfr1 kM kE
            · refine z_al0 eX12_runDown_93 ?_
              refine z_ga eX12_runDown_94 fX12_44 zs117 (t := 125) rfl ?_
              refine z_il4 eX12_runDown_97 ?_
              refine zr_iN eX12_runDown_99 zs125 (j := k) (by omega) (by omega) ?_
              refine z_al0 eX12_runDown_100 ?_
              refine z_ga eX12_runDown_101 fX12_44 zs117 (t := 125) rfl ?_
              refine z_il3 eX12_runDown_104 ?_
              refine zr_iN eX12_runDown_105 zs125 (j := l.toNat) (by omega) (by omega) ?_
              refine z_cne eX12_runDown_106 rfl (fun c106 => ?_) (fun c106 => ?_)
              · refine z_incN4 eX12_runDown_134 zn0 (by omega) (by omega) ?_
                refine z_goto eX12_runDown_137 rfl ?_
                have hm : majF (cntO D w set) V set (q + 1) k = majF (cntO D w set) V set q (k + 1) := by rw [majF, if_neg (by omega)]
                rw [hm] at kM kE
                have hcn1 : ∀ j : Nat, j < k + 1 → set.testBit j = true → g1 125 j = cntO D w set j := fun j hj hs => by
                  rcases Nat.lt_succ_iff_lt_or_eq.mp hj with h1 | h1
                  · exact n5 j h1 hs
                  · rw [h1]; exact n4
                have hq : lstF D (cntO D w set) set (q + 1) k l = lstF D (cntO D w set) set q (k + 1) l := by rw [lstF, if_neg (by omega)]
                rw [hq] at kE
                exact ih q (by omega) (k + 1) l g1 n1 n2 n3 (by omega) (by omega) hcn1 hlb hfr1 kM kE
              · refine z_al0 eX12_runDown_109 ?_
                refine z_ga eX12_runDown_110 fX12_35 zs117 (t := 122) rfl ?_
                refine z_ki eX12_runDown_113 ?_
                refine z_il4 eX12_runDown_115 ?_
                refine z_iaddN eX12_runDown_117 (by omega) (by omega) ?_
                refine zr_iN eX12_runDown_118 zs122 (j := 11 + k) (by omega) (by omega) ?_
                refine z_al0 eX12_runDown_119 ?_
                refine z_ga eX12_runDown_120 fX12_35 zs117 (t := 122) rfl ?_
                refine z_ki eX12_runDown_123 ?_
                refine z_il3 eX12_runDown_125 ?_
                refine z_iaddN eX12_runDown_126 (by omega) (by omega) ?_
                refine zr_iN eX12_runDown_127 zs122 (j := 11 + l.toNat) (by omega) (by omega) ?_
                refine z_cle eX12_runDown_128 rfl (fun c128 => ?_) (fun c128 => ?_)
                · refine z_incN4 eX12_runDown_134 zn0 (by omega) (by omega) ?_
                  refine z_goto eX12_runDown_137 rfl ?_
                  rw [n1] at c128
                  have hm : majF (cntO D w set) V set (q + 1) k = majF (cntO D w set) V set q (k + 1) := by rw [majF, if_neg (by omega)]
                  rw [hm] at kM kE
                  have hcn1 : ∀ j : Nat, j < k + 1 → set.testBit j = true → g1 125 j = cntO D w set j := fun j hj hs => by
                    rcases Nat.lt_succ_iff_lt_or_eq.mp hj with h1 | h1
                    · exact n5 j h1 hs
                    · rw [h1]; exact n4
                  have hq : lstF D (cntO D w set) set (q + 1) k l = lstF D (cntO D w set) set q (k + 1) l := by rw [lstF, if_neg (by omega)]
                  rw [hq] at kE
                  exact ih q (by omega) (k + 1) l g1 n1 n2 n3 (by omega) (by omega) hcn1 hlb hfr1 kM kE
                · refine z_il4 eX12_runDown_131 ?_
                  refine z_is3 eX12_runDown_133 zn0 ?_
                  refine z_incN4 eX12_runDown_134 zn0 (by omega) (by omega) ?_
                  refine z_goto eX12_runDown_137 rfl ?_
                  rw [n1] at c128
                  have hm : majF (cntO D w set) V set (q + 1) k = majF (cntO D w set) V set q (k + 1) := by rw [majF, if_neg (by omega)]
                  rw [hm] at kM kE
                  have hcn1 : ∀ j : Nat, j < k + 1 → set.testBit j = true → g1 125 j = cntO D w set j := fun j hj hs => by
                    rcases Nat.lt_succ_iff_lt_or_eq.mp hj with h1 | h1
                    · exact n5 j h1 hs
                    · rw [h1]; exact n4
                  have hq : lstF D (cntO D w set) set (q + 1) k l = lstF D (cntO D w set) set q (k + 1) k := by rw [lstF, if_pos ⟨tb, by omega⟩]
                  rw [hq] at kE
                  exact ih q (by omega) (k + 1) k g1 n1 n2 n3 (by omega) (by omega) hcn1 (fun _ => tb) hfr1 kM kE
        · refine z_ki eX12_runDown_68 ?_
          refine z_il4 eX12_runDown_69 ?_
          refine z_ishl eX12_runDown_71 ?_
          refine ze_i eX12_runDown_72 rfl ?_
          rw [kb_shl1 (by omega)]
          have hm : majF (cntO D w set) V set (q + 1) k = (k : Int) := by rw [majF, if_pos ⟨tb, by omega⟩]
          have hq := kM g1 hfr1 (by rw [hm]; omega)
          rw [hm, Int.toNat_natCast] at hq
          exact hq
      · refine z_goto eX12_runDown_35 rfl ?_
        refine z_incN4 eX12_runDown_134 zn0 (by omega) (by omega) ?_
        refine z_goto eX12_runDown_137 rfl ?_
        rw [kb_b0 (by omega) (by omega)] at c32
        have hm : majF (cntO D w set) V set (q + 1) k = majF (cntO D w set) V set q (k + 1) := by rw [majF, if_neg (by simp [c32])]
        have hq : lstF D (cntO D w set) set (q + 1) k l = lstF D (cntO D w set) set q (k + 1) l := by rw [lstF, if_neg (by simp [c32])]
        rw [hm] at kM kE
        rw [hq] at kE
        exact ih q (by omega) (k + 1) l g hg1 hg2 hg3 (by omega) (by omega) (fun j hj hs => hcn j (by rcases Nat.lt_succ_iff_lt_or_eq.mp hj with h1 | h1; exact h1; subst h1; rw [c32] at hs; cases hs) hs) hlb hfr kM kE
theorem runF_stop (D w : Nat → Int) (V : Int) (f set : Nat) (h : popc set ≤ 1) : runF D w V f set = set := by
  cases f with
  | zero => rfl
  | succ f => rw [runF, if_pos h]
theorem popc_less : ∀ s, s < 256 → ∀ l, l < 8 → s.testBit l = true → popc (s ^^^ (s &&& 2 ^ l)) = popc s - 1 := by decide +kernel
theorem popc_b : ∀ s, s < 256 → 0 ≤ popc s ∧ popc s ≤ 8 := by decide +kernel
theorem bit_some {s n : Nat} (h0 : ¬ s = 0) (hn : s < 2 ^ n) : ∃ j, j < n ∧ s.testBit j = true := by
  obtain ⟨j, hj⟩ := Nat.exists_testBit_of_ne_zero h0
  refine ⟨j, ?_, hj⟩
  rcases Nat.lt_or_ge j n with h | h
  · exact h
  · rw [Nat.testBit_lt_two_pow (Nat.lt_of_lt_of_le hn (Nat.pow_le_pow_right (by omega) h))] at hj
    cases hj
theorem lstF_spec (D c : Nat → Int) (set : Nat) : ∀ (r k : Nat) (l : Int), -1 ≤ l → l < k → (0 ≤ l → set.testBit l.toNat = true) → -1 ≤ lstF D c set r k l ∧ lstF D c set r k l < k + r ∧ (0 ≤ lstF D c set r k l → set.testBit (lstF D c set r k l).toNat = true) ∧ ((0 ≤ l ∨ ∃ j, k ≤ j ∧ j < k + r ∧ set.testBit j = true) → 0 ≤ lstF D c set r k l) := by
  intro r
  induction r with
  | zero =>
    intro k l h1 h2 h3
    refine ⟨h1, by simpa [lstF] using h2, h3, ?_⟩
    rintro (h | ⟨j, h4, h5, -⟩)
    · exact h
    · omega
  | succ r ih =>
    intro k l h1 h2 h3
    rw [lstF]
    split
    · next hc =>
      obtain ⟨q1, q2, q3, q4⟩ := ih (k + 1) k (by omega) (by omega) (fun _ => hc.1)
      exact ⟨q1, by omega, q3, fun _ => q4 (Or.inl (by omega))⟩
    · next hc =>
      obtain ⟨q1, q2, q3, q4⟩ := ih (k + 1) l h1 (by omega) h3
      refine ⟨q1, by omega, q3, fun hh => ?_⟩
      rcases hh with hh | ⟨j, h4, h5, h6⟩
      · exact q4 (Or.inl hh)
      · by_cases e : j = k
        · subst e
          exact q4 (Or.inl (by
            by_cases h7 : l < 0
            · exact absurd ⟨h6, Or.inl h7⟩ hc
            · omega))
        · exact q4 (Or.inr ⟨j, by omega, by omega, h6⟩)
theorem andn_lt {s n : Nat} (hn : s < 2 ^ n) (t : Nat) : s ^^^ (s &&& t) < 2 ^ n := Nat.xor_lt_two_pow hn (Nat.lt_of_le_of_lt Nat.and_le_left hn)
theorem p2_256 {s : Nat} {D : Nat → Int} (hb : dB D) (h : s < 2 ^ nN D) : s < 256 := Nat.lt_of_lt_of_le h (Nat.pow_le_pow_right (n := 2) (by omega) (nN_le hb))
theorem r_runDown_o (h : zHp) (D w : Nat → Int) (V : Int) (hb : dB D) (hvb : vB D w) (set0 : Int) : ∀ (f set : Nat) (g : zHp), set < 2 ^ nN D → popc set ≤ f + 1 → g 122 = D → g 124 = w → g 117 25 = V → zFr 125 h g → zRW mX12_runDown 3 (0, 0) 2 [zA 117, zI set0, zI set, zU, zU] [] 143 g (zqi (fun v h' => (runF D w V f set : Int) = v ∧ zFr 125 h h')) := by
  intro f
  induction f using Nat.strongRecOn with
  | ind f ih =>
    intro set g hset hpc hg1 hg2 hg3 hfr
    have h256 : set < 256 := p2_256 hb hset
    have hN8 := nN_le hb
    refine z_il2 eX12_runDown_2 ?_
    refine zc_si1 eX12_runDown_3 lX12_297 tJ6_bitCount_0f7a4 (by decide) (Nat.le_of_ble_eq_true rfl) (j_bit _ set h256) ?_
    rintro _ _ ⟨rfl, rfl⟩ -
    refine z_ki eX12_runDown_6 ?_
    refine z_cle eX12_runDown_7 rfl (fun c7 => ?_) (fun c7 => ?_)
    · refine z_il2 eX12_runDown_151 ?_
      refine ze_i eX12_runDown_152 rfl ?_
      exact ⟨by rw [runF_stop D w V f set (by omega)], hfr⟩
    · refine z_ki eX12_runDown_10 ?_
      refine z_is3 eX12_runDown_11 zn0 ?_
      refine z_ki eX12_runDown_12 ?_
      refine z_is4 eX12_runDown_13 zn0 ?_
      obtain ⟨f, rfl⟩ : ∃ q, f = q + 1 := ⟨f - 1, by omega⟩
      have hne : ¬ set = 0 := fun e => by subst e; exact absurd c7 (by decide)
      obtain ⟨q1, q2, q3, q4⟩ := lstF_spec D (cntO D w set) set (nN D) 0 (-1) (by omega) (by omega) (by omega)
      obtain ⟨j, hj1, hj2⟩ := bit_some hne hset
      have hL := q4 (Or.inr ⟨j, by omega, by omega, hj2⟩)
      refine r_runDown_i h D w V hb hvb set0 set h256 _ (nN D) 0 (-1) g hg1 hg2 hg3 (Nat.zero_add _) (by omega) (fun j hj => by omega) (by omega) hfr (fun g' hf hm => ⟨by rw [runF, if_neg (by omega), if_pos hm], hf⟩) (fun g' hf n1 n2 n3 hm => ?_)
      refine z_il2 eX12_runDown_140 ?_
      refine z_ki eX12_runDown_141 ?_
      refine z_il3 eX12_runDown_142 ?_
      rw [show lstF D (cntO D w set) set (nN D) 0 (-1) = ((lstF D (cntO D w set) set (nN D) 0 (-1)).toNat : Int) by omega]
      refine z_ishl eX12_runDown_143 ?_
      rw [kb_shl1 (by omega)]
      refine z_ki eX12_runDown_144 ?_
      refine z_ixor eX12_runDown_145 ?_
      refine z_iand eX12_runDown_146 ?_
      refine z_is2 eX12_runDown_147 zn0 ?_
      refine z_goto eX12_runDown_148 rfl ?_
      refine z_fg3 ?_
      refine z_fg4 ?_
      have e2 : zand (set : Int) (zxor (((2 ^ (lstF D (cntO D w set) set (nN D) 0 (-1)).toNat : Nat)) : Int) (-1)) = ((set ^^^ (set &&& 2 ^ (lstF D (cntO D w set) set (nN D) 0 (-1)).toNat) : Nat) : Int) := kb_andn (by omega)
      rw [e2, show runF D w V (f + 1) set = runF D w V f (set ^^^ (set &&& 2 ^ (lstF D (cntO D w set) set (nN D) 0 (-1)).toNat)) by rw [runF, if_neg (by omega), if_neg hm]]
      exact ih f (by omega) _ g' (andn_lt hset _) (by rw [popc_less set h256 _ (by omega) (q3 hL)]; omega) n1 n2 n3 hf
theorem r_runDown (h : zHp) (D w : Nat → Int) (hD : h 122 = D) (hw : h 124 = w) (hb : dB D) (hvb : vB D w) (V : Int) (hV : h 117 25 = V) (set : Nat) (hset : set < 2 ^ nN D) : zCi mX12_runDown 3 [zA 117, zI set] h (fun v h' => (runOf D w V set : Int) = v ∧ zFr 125 h h') := by
  refine z_enter [zA 117, zI set, zU, zU, zU] (by decide +kernel) (Nat.le_of_ble_eq_true rfl) rfl (fun hra hrg => ?_)
  refine z_il1 eX12_runDown_0 ?_
  refine z_is2 eX12_runDown_1 zn0 ?_
  have h256 : set < 256 := p2_256 hb hset
  exact r_runDown_o h D w V hb hvb set 8 set h hset (by have := (popc_b set h256).2; omega) hD hw hV zFr.rf
