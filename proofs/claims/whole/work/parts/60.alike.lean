-- alike (written by wip/tools/specA1.py)
def alkT (D : Nat → Int) (a b : Nat) : Nat := ((D 2).toNat ||| 2 ^ a) ||| 2 ^ b
def alkS (D : Nat → Int) (a b : Nat) : Nat → Int := fun s => if plc D s a (alkT D a b) - plc D s b (alkT D a b) = 1 ∨ plc D s a (alkT D a b) - plc D s b (alkT D a b) = -1 then D (20 + s) else 0
def qAlike (D : Nat → Int) (a b : Int) : Int × Int := if (0 ≤ a ∧ a < D 0) ∧ (0 ≤ b ∧ b < D 0) ∧ ¬ a = b then (sumN (alkS D a.toNat b.toNat) (nS D), 0) else (-1, 2)
theorem alkS_b {D : Nat → Int} (hb : dB D) (a b : Nat) : vB D (alkS D a b) := fun s hs => by
  have := hb.2.2.2.2.1 s hs
  unfold alkS
  split <;> omega
theorem alkT_lt {D : Nat → Int} (hb : dB D) (hst : D 2 < ((2 ^ nN D : Nat) : Int)) {a b : Nat} (ha : a < nN D) (hbb : b < nN D) : alkT D a b < 2 ^ nN D := or_p2_lt (or_p2_lt (stL hb hst) ha) hbb
theorem cntTo_eq (D : Nat → Int) (s set m : Nat) : ∀ n, m ≤ n → (cntTo D s set n = cntTo D s set m ↔ ∀ j, m ≤ j → j < n → set.testBit (oD D s j) = false) := by
  intro n
  induction n with
  | zero => intro h; have : m = 0 := by omega
            subst this; simp
  | succ n ih =>
    intro h
    by_cases e : m = n + 1
    · subst e
      exact ⟨fun _ j h1 h2 => by omega, fun _ => rfl⟩
    · have h1 : cntTo D s set (n + 1) = cntTo D s set n + bv set (oD D s n) := rfl
      have h2 := cntTo_mono D s set (show m ≤ n by omega)
      have ih2 := ih (by omega)
      constructor
      · intro q j hj1 hj2
        have h4 : cntTo D s set n = cntTo D s set m ∧ bv set (oD D s n) = 0 := by rcases bv_01 set (oD D s n) with e | e <;> omega
        by_cases z : j = n
        · subst z; exact bv_F h4.2
        · exact ih2.mp h4.1 j hj1 (by omega)
      · intro q
        have h4 := ih2.mpr (fun j a b => q j a (by omega))
        have h5 : bv set (oD D s n) = 0 := by unfold bv; rw [q n (by omega) (by omega)]; rfl
        omega
def ask (S a b : Nat) : Nat := (S ^^^ (S &&& 2 ^ a)) ^^^ ((S ^^^ (S &&& 2 ^ a)) &&& 2 ^ b)
theorem ask_bit (S a b k : Nat) (ha : ¬ k = a) (hb : ¬ k = b) : (ask S a b).testBit k = S.testBit k := by
  unfold ask
  rw [Nat.testBit_xor, Nat.testBit_and, Nat.testBit_xor, Nat.testBit_and, Nat.testBit_two_pow_of_ne (fun e => ha e.symm), Nat.testBit_two_pow_of_ne (fun e => hb e.symm)]
  cases S.testBit k <;> rfl
theorem alkT_bit {D : Nat → Int} {a b k : Nat} (ha : ¬ k = a) (hb : ¬ k = b) : (alkT D a b).testBit k = (D 2).toNat.testBit k := by
  unfold alkT
  rw [Nat.testBit_or, Nat.testBit_or, Nat.testBit_two_pow_of_ne (fun e => ha e.symm), Nat.testBit_two_pow_of_ne (fun e => hb e.symm), Bool.or_false, Bool.or_false]
theorem alkT_self (D : Nat → Int) (a b : Nat) : (alkT D a b).testBit a = true ∧ (alkT D a b).testBit b = true := by
  unfold alkT
  rw [Nat.testBit_or, Nat.testBit_or, Nat.testBit_or, Nat.testBit_two_pow_self, Nat.testBit_two_pow_self]
  simp
/-- 1 as long as none that is asked for stands in the p places behind lo -/
def nbF (D : Nat → Int) (s ak lo : Nat) : Nat → Int
  | 0 => 1
  | p + 1 => if ak.testBit (oD D s (lo + 1 + p)) = true then 0 else nbF D s ak lo p
theorem nbF_01 (D : Nat → Int) (s ak lo : Nat) : ∀ p, nbF D s ak lo p = 0 ∨ nbF D s ak lo p = 1 := by
  intro p
  induction p with
  | zero => exact Or.inr rfl
  | succ p ih =>
    rw [nbF]
    split
    · exact Or.inl rfl
    · exact ih
theorem nbF_all (D : Nat → Int) (s ak lo : Nat) : ∀ p, nbF D s ak lo p = 1 ↔ ∀ j, lo + 1 ≤ j → j < lo + 1 + p → ak.testBit (oD D s j) = false := by
  intro p
  induction p with
  | zero => exact ⟨fun _ j h1 h2 => by omega, fun _ => rfl⟩
  | succ p ih =>
    rw [nbF]
    constructor
    · intro h j h1 h2
      split at h
      · omega
      · next q =>
        by_cases e : j = lo + 1 + p
        · subst e; simpa using q
        · exact ih.mp h j h1 (by omega)
    · intro h
      rw [if_neg (by rw [h _ (by omega) (by omega)]; decide)]
      exact ih.mpr (fun j a b => h j a (by omega))
theorem alk_nb {D : Nat → Int} {P : Nat → Nat → Nat} (hb : dB D) (hp : pB D P) {s a b : Nat} (hs : s < nS D) (ha : a < nN D) (hbb : b < nN D) (hab : ¬ a = b) :
    (plc D s a (alkT D a b) - plc D s b (alkT D a b) = 1 ∨ plc D s a (alkT D a b) - plc D s b (alkT D a b) = -1) ↔ nbF D s (ask (D 2).toNat a b) (min (P s a) (P s b)) (max (P s a) (P s b) - (min (P s a) (P s b) + 1)) = 1 := by
  have h1 := hp s a hs ha
  have h2 := hp s b hs hbb
  have hne : ¬ P s a = P s b := fun e => hab (by rw [← h1.2.1, ← h2.2.1, e])
  have key : ∀ x y : Nat, x < nN D → y < nN D → (x = a ∧ y = b ∨ x = b ∧ y = a) → P s x < P s y → (cntTo D s (alkT D a b) (P s y) = cntTo D s (alkT D a b) (P s x) + 1 ↔ nbF D s (ask (D 2).toNat a b) (P s x) (P s y - (P s x + 1)) = 1) := by
    intro x y hx hy hxy hlt
    have q1 := hp s x hs hx
    have hx1 : cntTo D s (alkT D a b) (P s x + 1) = cntTo D s (alkT D a b) (P s x) + 1 := by
      have h0 : cntTo D s (alkT D a b) (P s x + 1) = cntTo D s (alkT D a b) (P s x) + bv (alkT D a b) (oD D s (P s x)) := rfl
      rw [h0, q1.2.1]
      unfold bv
      rw [if_pos (by rcases hxy with e | e
                     · rw [e.1]; exact (alkT_self D a b).1
                     · rw [e.1]; exact (alkT_self D a b).2)]
    rw [← hx1, cntTo_eq D s _ _ _ (by omega), nbF_all]
    have hbit : ∀ j, P s x + 1 ≤ j → j < P s y → ((alkT D a b).testBit (oD D s j) = false ↔ (ask (D 2).toNat a b).testBit (oD D s j) = false) := by
      intro j j1 j2
      have hjl : j < nN D := by have := (hp s y hs hy).1; omega
      have hj := (hp s j hs hjl).2.2
      have na : ¬ oD D s j = a := fun e => by
        rw [e] at hj
        rcases hxy with ⟨rfl, rfl⟩ | ⟨rfl, rfl⟩ <;> omega
      have nb : ¬ oD D s j = b := fun e => by
        rw [e] at hj
        rcases hxy with ⟨rfl, rfl⟩ | ⟨rfl, rfl⟩ <;> omega
      rw [alkT_bit na nb, ask_bit _ _ _ _ na nb]
    constructor
    · intro h j j1 j2
      exact (hbit j j1 (by omega)).mp (h j j1 (by omega))
    · intro h j j1 j2
      exact (hbit j j1 (by omega)).mpr (h j j1 (by omega))
  rw [plc_cnt hb hp hs ha, plc_cnt hb hp hs hbb]
  have mo1 : P s a < P s b → cntTo D s (alkT D a b) (P s a) ≤ cntTo D s (alkT D a b) (P s b) := fun q => cntTo_mono D s _ (by omega)
  have mo2 : P s b < P s a → cntTo D s (alkT D a b) (P s b) ≤ cntTo D s (alkT D a b) (P s a) := fun q => cntTo_mono D s _ (by omega)
  rcases Nat.lt_or_ge (P s a) (P s b) with q | q
  · rw [Nat.min_eq_left (by omega), Nat.max_eq_right (by omega), ← key a b ha hbb (Or.inl ⟨rfl, rfl⟩) q]
    have := mo1 q
    omega
  · rw [Nat.min_eq_right (by omega), Nat.max_eq_left (by omega), ← key b a hbb ha (Or.inr ⟨rfl, rfl⟩) (by omega)]
    have := mo2 (by omega)
    omega
theorem ask_lt {S a b n : Nat} (h : S < 2 ^ n) : ask S a b < 2 ^ n := andn_lt (andn_lt h _) _
theorem x_nb_i (h : zHp) (D : Nat → Int) (P : Nat → Nat → Nat) (hb : dB D) (hx : hX h D P) (a b ak : Nat) (hak : ak < 256) (sm : Int) (s : Nat) (hs : s < nS D) (lo hi : Nat) (hlh : lo < hi) (hhi : hi ≤ nN D) (Q : Int → zHp → Prop) (kE : zRW mX2_neighbours 1 (0, 0) 155 [zA 50, zI a, zI b, zI ak, zI sm, zI s, zI ((s : Int) * 8), zI lo, zI hi, zI (nbF D s ak lo (hi - (lo + 1))), zI hi] [] 143 h (zqi Q)) : ∀ (r p : Nat), lo + 1 + p + r = hi → zRW mX2_neighbours 1 (0, 0) 112 [zA 50, zI a, zI b, zI ak, zI sm, zI s, zI ((s : Int) * 8), zI lo, zI hi, zI (nbF D s ak lo p), zI ((lo : Int) + 1 + p)] [] 143 h (zqi Q) := by
  have hN8 := nN_le hb
  have hS20 := nS_le hb
  obtain ⟨x0, x1, x2, x3⟩ := id hx
  intro r
  induction r using Nat.strongRecOn with
  | ind r ih =>
    intro p hp
    have h01 := nbF_01 D s ak lo p
    refine z_il10 eX2_neighbours_112 ?_
    refine z_il8 eX2_neighbours_114 ?_
    refine z_cge eX2_neighbours_116 rfl (fun c116 => ?_) (fun c116 => ?_)
    · have e1 : p = hi - (lo + 1) := by omega
      rw [show (lo : Int) + 1 + (p : Int) = (hi : Int) by omega, e1]
      exact kE
    · have ho := oD_lt hb hs (show lo + 1 + p < nN D by omega)
      have h12 := (x2 s (lo + 1 + p) hs (by omega)).1
      refine z_il9 eX2_neighbours_119 ?_
      refine z_il3 eX2_neighbours_121 ?_
      refine z_al0 eX2_neighbours_122 ?_
      refine z_ga eX2_neighbours_123 fX2_21 zs50 (t := 4) rfl ?_
      refine z_ga eX2_neighbours_126 fX2_81 zs4 (t := 12) rfl ?_
      refine z_il6 eX2_neighbours_129 ?_
      refine z_il10 eX2_neighbours_131 ?_
      refine z_iaddN eX2_neighbours_133 (by omega) (by omega) ?_
      refine zr_iN eX2_neighbours_134 zs12 (j := 8 * s + (lo + 1 + p)) (by omega) (by omega) ?_
      rw [h12, ho.2]
      refine z_ishr eX2_neighbours_135 ?_
      refine z_ki eX2_neighbours_136 ?_
      refine z_iand eX2_neighbours_137 ?_
      rw [kb_bit (by omega) (by omega)]
      refine z_ine eX2_neighbours_138 rfl (fun c138 => ?_) (fun c138 => ?_)
      · have z138 := iteT c138
        refine z_ki eX2_neighbours_145 ?_
        refine z_iand eX2_neighbours_146 ?_
        rw [show zand (nbF D s ak lo p) 0 = nbF D s ak lo (p + 1) by
          rw [nbF, if_pos z138]
          rcases h01 with e | e <;> rw [e] <;> decide]
        refine z_is9 eX2_neighbours_147 zn0 ?_
        refine z_incN10 eX2_neighbours_149 zn0 (by omega) (by omega) ?_
        refine z_goto eX2_neighbours_152 rfl ?_
        have q := ih (r - 1) (by omega) (p + 1) (by omega)
        rw [show (lo : Int) + 1 + ((p + 1 : Nat) : Int) = (lo : Int) + 1 + p + 1 by omega] at q
        exact q
      · have z138 := iteF c138
        refine z_ki eX2_neighbours_141 ?_
        refine z_goto eX2_neighbours_142 rfl ?_
        refine z_iand eX2_neighbours_146 ?_
        rw [show zand (nbF D s ak lo p) 1 = nbF D s ak lo (p + 1) by
          rw [nbF, if_neg z138]
          rcases h01 with e | e <;> rw [e] <;> decide]
        refine z_is9 eX2_neighbours_147 zn0 ?_
        refine z_incN10 eX2_neighbours_149 zn0 (by omega) (by omega) ?_
        refine z_goto eX2_neighbours_152 rfl ?_
        have q := ih (r - 1) (by omega) (p + 1) (by omega)
        rw [show (lo : Int) + 1 + ((p + 1 : Nat) : Int) = (lo : Int) + 1 + p + 1 by omega] at q
        exact q
theorem x_nb_s (h : zHp) (H : rHR h) (D : Nat → Int) (hD : h 122 = D) (a b : Nat) (ha : a < nN D) (hbb : b < nN D) (hab : ¬ a = b) : ∀ (r s : Nat), s + r = nS D → zRW mX2_neighbours 1 (0, 0) 26 [zA 50, zI a, zI b, zI (ask (D 2).toNat a b : Nat), zI (sumN (alkS D a b) s), zI s, zU, zU, zU, zU, zU] [] 143 h (zqi (fun v h' => sumN (alkS D a b) (nS D) = v ∧ h = h')) := by
  subst hD
  obtain ⟨⟨hb, hst, e0, e1, e7, ek, es, eo, hp⟩, hru⟩ := id H
  have hN := nN_eq hb
  have hS := nS_eq hb
  have hN8 := nN_le hb
  have hS20 := nS_le hb
  have hb2 := hb.2.2.1
  obtain ⟨x0, x1, x2, x3⟩ := hallR_hX H.1
  have hal := ask_lt (a := a) (b := b) (stL hb hst)
  have hak := p2_256 hb hal
  intro r
  induction r using Nat.strongRecOn with
  | ind r ih =>
    intro s hs
    refine z_il5 eX2_neighbours_26 ?_
    refine z_al0 eX2_neighbours_28 ?_
    refine z_ga eX2_neighbours_29 fX2_21 zs50 (t := 4) rfl ?_
    refine z_gi eX2_neighbours_32 fX2_78 zs4 ?_
    refine z_cge eX2_neighbours_35 rfl (fun c35 => ?_) (fun c35 => ?_)
    · refine z_il4 eX2_neighbours_185 ?_
      refine ze_i eX2_neighbours_187 rfl ?_
      have e : s = nS (h 122) := by omega
      subst e
      exact ⟨rfl, rfl⟩
    · refine z_il5 eX2_neighbours_38 ?_
      refine z_ki eX2_neighbours_40 ?_
      refine z_imulN eX2_neighbours_42 (by omega) (by omega) ?_
      refine z_is6 eX2_neighbours_43 zn0 ?_
      have hsum := vB_sum (alkS_b hb a b) (s := s) (by omega)
      have hi9 : h 9 s = h 122 (20 + s) := (es s (by omega)).1
      have hib := inOf_b hb s (by omega)
      unfold inOf at hib
      have pa := (x2 s a (by omega) ha).2
      have pb := (x2 s b (by omega) hbb).2
      have qa := hp s a (by omega) ha
      have qb := hp s b (by omega) hbb
      have hne : ¬ pX h 4 s a = pX h 4 s b := fun e => hab (by rw [← qa.2.1, ← qb.2.1, e])
      have hnb := alk_nb hb hp (show s < nS (h 122) by omega) ha hbb hab
      have h01 := nbF_01 (h 122) s (ask (h 122 2).toNat a b) (min (pX h 4 s a) (pX h 4 s b)) (max (pX h 4 s a) (pX h 4 s b) - (min (pX h 4 s a) (pX h 4 s b) + 1))
      refine z_al0 eX2_neighbours_45 ?_
      refine z_ga eX2_neighbours_46 fX2_21 zs50 (t := 4) rfl ?_
      refine z_ga eX2_neighbours_49 fX2_103 zs4 (t := 13) rfl ?_
      refine z_il6 eX2_neighbours_52 ?_
      refine z_il1 eX2_neighbours_54 ?_
      refine z_iaddN eX2_neighbours_55 (by omega) (by omega) ?_
      refine zr_iN eX2_neighbours_56 zs13 (j := 8 * s + a) (by omega) (by omega) ?_
      rw [pa]
      refine z_al0 eX2_neighbours_57 ?_
      refine z_ga eX2_neighbours_58 fX2_21 zs50 (t := 4) rfl ?_
      refine z_ga eX2_neighbours_61 fX2_103 zs4 (t := 13) rfl ?_
      refine z_il6 eX2_neighbours_64 ?_
      refine z_il2 eX2_neighbours_66 ?_
      refine z_iaddN eX2_neighbours_67 (by omega) (by omega) ?_
      refine zr_iN eX2_neighbours_68 zs13 (j := 8 * s + b) (by omega) (by omega) ?_
      rw [pb]
      refine z_min eX2_neighbours_69 lX2_119 (by decide) (Nat.le_of_ble_eq_true rfl) ?_
      rw [show min ((pX h 4 s a : Nat) : Int) ((pX h 4 s b : Nat) : Int) = ((min (pX h 4 s a) (pX h 4 s b) : Nat) : Int) by omega]
      refine z_is7 eX2_neighbours_72 zn0 ?_
      refine z_al0 eX2_neighbours_74 ?_
      refine z_ga eX2_neighbours_75 fX2_21 zs50 (t := 4) rfl ?_
      refine z_ga eX2_neighbours_78 fX2_103 zs4 (t := 13) rfl ?_
      refine z_il6 eX2_neighbours_81 ?_
      refine z_il1 eX2_neighbours_83 ?_
      refine z_iaddN eX2_neighbours_84 (by omega) (by omega) ?_
      refine zr_iN eX2_neighbours_85 zs13 (j := 8 * s + a) (by omega) (by omega) ?_
      rw [pa]
      refine z_al0 eX2_neighbours_86 ?_
      refine z_ga eX2_neighbours_87 fX2_21 zs50 (t := 4) rfl ?_
      refine z_ga eX2_neighbours_90 fX2_103 zs4 (t := 13) rfl ?_
      refine z_il6 eX2_neighbours_93 ?_
      refine z_il2 eX2_neighbours_95 ?_
      refine z_iaddN eX2_neighbours_96 (by omega) (by omega) ?_
      refine zr_iN eX2_neighbours_97 zs13 (j := 8 * s + b) (by omega) (by omega) ?_
      rw [pb]
      refine z_max eX2_neighbours_98 lX2_87 (by decide) (Nat.le_of_ble_eq_true rfl) ?_
      rw [show max ((pX h 4 s a : Nat) : Int) ((pX h 4 s b : Nat) : Int) = ((max (pX h 4 s a) (pX h 4 s b) : Nat) : Int) by omega]
      refine z_is8 eX2_neighbours_101 zn0 ?_
      refine z_ki eX2_neighbours_103 ?_
      refine z_is9 eX2_neighbours_104 zn0 ?_
      refine z_il7 eX2_neighbours_106 ?_
      refine z_ki eX2_neighbours_108 ?_
      refine z_iaddN eX2_neighbours_109 (by omega) (by omega) ?_
      refine z_is10 eX2_neighbours_110 zn0 ?_
      refine x_nb_i h (h 122) (pX h 4) hb ⟨x0, x1, x2, x3⟩ a b _ hak _ s (by omega) _ _ (by omega) (by omega) _ ?_ _ 0 (show _ + 1 + 0 + (max (pX h 4 s a) (pX h 4 s b) - (min (pX h 4 s a) (pX h 4 s b) + 1)) = _ by omega)
      refine z_il4 eX2_neighbours_155 ?_
      refine z_il9 eX2_neighbours_157 ?_
      refine z_ieq eX2_neighbours_159 rfl (fun c159 => ?_) (fun c159 => ?_)
      · refine z_ki eX2_neighbours_175 ?_
        refine z_iaddN eX2_neighbours_176 (by omega) (by omega) ?_
        refine z_is4 eX2_neighbours_177 zn0 ?_
        refine z_incN5 eX2_neighbours_179 zn0 (by omega) (by omega) ?_
        refine z_goto eX2_neighbours_182 rfl ?_
        refine z_fg6 ?_
        refine z_fg7 ?_
        refine z_fg8 ?_
        refine z_fg9 ?_
        refine z_fg10 ?_
        rw [show sumN (alkS (h 122) a b) s + 0 = sumN (alkS (h 122) a b) (s + 1) by rw [sumN, show alkS (h 122) a b s = 0 from if_neg (fun z => by have := hnb.mp z; omega)]]
        exact ih (r - 1) (by omega) (s + 1) (by omega)
      · refine z_al0 eX2_neighbours_162 ?_
        refine z_ga eX2_neighbours_163 fX2_21 zs50 (t := 4) rfl ?_
        refine z_ga eX2_neighbours_166 fX2_106 zs4 (t := 9) rfl ?_
        refine z_il5 eX2_neighbours_169 ?_
        refine zr_iN eX2_neighbours_171 zs9 (j := s) (by omega) (by omega) ?_
        refine z_goto eX2_neighbours_172 rfl ?_
        rw [hi9]
        refine z_iaddN eX2_neighbours_176 (by omega) (by omega) ?_
        refine z_is4 eX2_neighbours_177 zn0 ?_
        refine z_incN5 eX2_neighbours_179 zn0 (by omega) (by omega) ?_
        refine z_goto eX2_neighbours_182 rfl ?_
        refine z_fg6 ?_
        refine z_fg7 ?_
        refine z_fg8 ?_
        refine z_fg9 ?_
        refine z_fg10 ?_
        rw [show sumN (alkS (h 122) a b) s + h 122 (20 + s) = sumN (alkS (h 122) a b) (s + 1) by rw [sumN, show alkS (h 122) a b s = h 122 (20 + s) from if_pos (hnb.mpr (by omega))]]
        exact ih (r - 1) (by omega) (s + 1) (by omega)
theorem x_nb (h : zHp) (H : rHR h) (D : Nat → Int) (hD : h 122 = D) (a b : Nat) (ha : a < nN D) (hbb : b < nN D) (hab : ¬ a = b) : zCi mX2_neighbours 1 [zA 50, zI a, zI b] h (fun v h' => sumN (alkS D a b) (nS D) = v ∧ h = h') := by
  refine z_enter [zA 50, zI a, zI b, zU, zU, zU, zU, zU, zU, zU, zU] (by decide +kernel) (Nat.le_of_ble_eq_true rfl) rfl (fun hra hrg => ?_)
  subst hD
  obtain ⟨⟨hb, hst, e0, e1, e7, ek, es, eo, hp⟩, hru⟩ := id H
  have hN := nN_eq hb
  have hS := nS_eq hb
  have hN8 := nN_le hb
  have hS20 := nS_le hb
  have hb2 := hb.2.2.1
  have hk1 := Nat.pow_le_pow_right (n := 2) (by omega) (show a ≤ 7 by omega)
  have hk2 := Nat.pow_le_pow_right (n := 2) (by omega) (show b ≤ 7 by omega)
  have han := p2_256 hb (andn_lt (stL hb hst) (2 ^ a))
  refine z_al0 eX2_neighbours_0 ?_
  refine z_ga eX2_neighbours_1 fX2_21 zs50 (t := 4) rfl ?_
  refine z_gi eX2_neighbours_4 fX2_116 zs4 ?_
  refine z_ki eX2_neighbours_7 ?_
  refine z_il1 eX2_neighbours_8 ?_
  refine z_ishl eX2_neighbours_9 ?_
  rw [kb_shl1 (by omega)]
  refine z_ki eX2_neighbours_10 ?_
  refine z_ixor eX2_neighbours_11 ?_
  refine z_iand eX2_neighbours_12 ?_
  rw [e1, stN hb, kb_andn (by omega)]
  refine z_ki eX2_neighbours_13 ?_
  refine z_il2 eX2_neighbours_14 ?_
  refine z_ishl eX2_neighbours_15 ?_
  rw [kb_shl1 (by omega)]
  refine z_ki eX2_neighbours_16 ?_
  refine z_ixor eX2_neighbours_17 ?_
  refine z_iand eX2_neighbours_18 ?_
  rw [kb_andn (by omega)]
  refine z_is3 eX2_neighbours_19 zn0 ?_
  refine z_ki eX2_neighbours_20 ?_
  refine z_is4 eX2_neighbours_21 zn0 ?_
  refine z_ki eX2_neighbours_23 ?_
  refine z_is5 eX2_neighbours_24 zn0 ?_
  exact x_nb_s h H _ rfl a b ha hbb hab _ 0 (Nat.zero_add _)
theorem x_alike (h : zHp) (H : rHR h) (a b : Int) : zCi mX11_alike 2 [zA 0, zI a, zI b] h (fun v h' => pX0 h (qAlike (h 122) a b) v h') := by
  refine z_enter [zA 0, zI a, zI b] (by decide +kernel) (Nat.le_of_ble_eq_true rfl) rfl (fun hra hrg => ?_)
  obtain ⟨⟨hb, hst, e0, e1, e7, ek, es, eo, hp⟩, hru⟩ := id H
  have hN := nN_eq hb
  have hS := nS_eq hb
  have hN8 := nN_le hb
  have hS20 := nS_le hb
  have hb2 := hb.2.2.1
  refine z_al0 eX11_alike_0 ?_
  refine z_il1 eX11_alike_1 ?_
  refine zc_vi1 eX11_alike_2 lX11_224 tX11_isName zs0 (by decide) (Nat.le_of_ble_eq_true rfl) (x_isName _ H _) ?_
  rintro _ _ ⟨rfl, rfl⟩ -
  refine z_ieq eX11_alike_5 rfl (fun c5 => ?_) (fun c5 => ?_)
  · have z5 := iteF c5
    refine z_al0 eX11_alike_21 ?_
    refine z_ki eX11_alike_22 ?_
    refine zc_vi1 eX11_alike_23 lX11_153 tX11_fail zs0 (by decide) (Nat.le_of_ble_eq_true rfl) (x_fail _ _) ?_
    rintro _ _ ⟨rfl, rfl⟩ -
    refine ze_i eX11_alike_26 rfl ?_
    exact pX0_f zXf.rf (by unfold qAlike; (repeat' split) <;> first | (exfalso; omega) | rfl)
  · have z5 := iteT c5
    refine z_al0 eX11_alike_8 ?_
    refine z_il2 eX11_alike_9 ?_
    refine zc_vi1 eX11_alike_10 lX11_224 tX11_isName zs0 (by decide) (Nat.le_of_ble_eq_true rfl) (x_isName _ H _) ?_
    rintro _ _ ⟨rfl, rfl⟩ -
    refine z_ieq eX11_alike_13 rfl (fun c13 => ?_) (fun c13 => ?_)
    · have z13 := iteF c13
      refine z_al0 eX11_alike_21 ?_
      refine z_ki eX11_alike_22 ?_
      refine zc_vi1 eX11_alike_23 lX11_153 tX11_fail zs0 (by decide) (Nat.le_of_ble_eq_true rfl) (x_fail _ _) ?_
      rintro _ _ ⟨rfl, rfl⟩ -
      refine ze_i eX11_alike_26 rfl ?_
      exact pX0_f zXf.rf (by unfold qAlike; (repeat' split) <;> first | (exfalso; omega) | rfl)
    · have z13 := iteT c13
      refine z_il1 eX11_alike_16 ?_
      refine z_il2 eX11_alike_17 ?_
      refine z_cne eX11_alike_18 rfl (fun c18 => ?_) (fun c18 => ?_)
      · obtain ⟨a, rfl⟩ := Int.eq_ofNat_of_zero_le z5.1
        obtain ⟨b, rfl⟩ := Int.eq_ofNat_of_zero_le z13.1
        refine z_al0 eX11_alike_27 ?_
        refine z_al0 eX11_alike_28 ?_
        refine z_ga eX11_alike_29 fX11_65 zs0 (t := 50) rfl ?_
        refine z_il1 eX11_alike_32 ?_
        refine z_il2 eX11_alike_33 ?_
        refine zc_vi2 eX11_alike_34 lX11_332 tX2_neighbours zs50 (by decide) (Nat.le_of_ble_eq_true rfl) (x_nb h H _ rfl a b (by omega) (by omega) (by omega)) ?_
        rintro _ _ ⟨rfl, rfl⟩ -
        refine zc_vi1 eX11_alike_37 lX11_202 tX11_answer zs0 (by decide) (Nat.le_of_ble_eq_true rfl) (x_answer _ _) ?_
        rintro _ _ ⟨rfl, rfl⟩ -
        refine ze_i eX11_alike_40 rfl ?_
        exact pX0_f zXf.rf (by unfold qAlike; simp only [Int.toNat_natCast]; (repeat' split) <;> first | (exfalso; omega) | rfl)
      · refine z_al0 eX11_alike_21 ?_
        refine z_ki eX11_alike_22 ?_
        refine zc_vi1 eX11_alike_23 lX11_153 tX11_fail zs0 (by decide) (Nat.le_of_ble_eq_true rfl) (x_fail _ _) ?_
        rintro _ _ ⟨rfl, rfl⟩ -
        refine ze_i eX11_alike_26 rfl ?_
        exact pX0_f zXf.rf (by unfold qAlike; (repeat' split) <;> first | (exfalso; omega) | rfl)
theorem r_alike_l (h g : zHp) (hg : zup (zup h 117 1 0) 117 0 0 = g) (D : Nat → Int) (hgD : g 122 = D) (hb : dB D) (hst : D 2 < ((2 ^ nN D : Nat) : Int)) (a b : Nat) (ha : a < nN D) (hbb : b < nN D) : ∀ (r s : Nat), s + r = nS D → zRW mX12_alike 2 (0, 0) 58 [zA 117, zI a, zI b, zI (alkT D a b : Nat), zI (sumN (alkS D a b) s), zI s] [] 143 g (zqi (fun v h' => pM0 h (sumN (alkS D a b) (nS D), 0) v h')) := by
  subst hgD
  have hN := nN_eq hb
  have hS := nS_eq hb
  have hN8 := nN_le hb
  have hS20 := nS_le hb
  have hb2 := hb.2.2.1
  have hal := p2_256 hb (alkT_lt hb hst ha hbb)
  intro r
  induction r using Nat.strongRecOn with
  | ind r ih =>
    intro s hs
    refine z_il5 eX12_alike_58 ?_
    refine z_al0 eX12_alike_60 ?_
    refine z_ga eX12_alike_61 fX12_35 zs117 (t := 122) rfl ?_
    refine z_ki eX12_alike_64 ?_
    refine zr_iN eX12_alike_65 zs122 (j := 1) (by omega) (by omega) ?_
    refine z_cge eX12_alike_66 rfl (fun c66 => ?_) (fun c66 => ?_)
    · refine z_il4 eX12_alike_114 ?_
      refine ze_i eX12_alike_116 rfl ?_
      have e : s = nS (g 122) := by omega
      subst e
      exact pM0_f hg zMf.rf rfl
    · have hsum := vB_sum (alkS_b hb a b) (s := s) (by omega)
      have hib := inOf_b hb s (by omega)
      unfold inOf at hib
      have p1 := plc_b hb s a (alkT (g 122) a b)
      have p2 := plc_b hb s b (alkT (g 122) a b)
      refine z_al0 eX12_alike_69 ?_
      refine z_il5 eX12_alike_70 ?_
      refine z_il1 eX12_alike_72 ?_
      refine z_il3 eX12_alike_73 ?_
      refine zc_vi3 eX12_alike_74 lX12_290 tX12_placeIn zs117 (by decide) (Nat.le_of_ble_eq_true rfl) (r_placeIn _ _ rfl hb s (by omega) (a : Int) _ (by omega)) ?_
      rintro _ _ ⟨rfl, rfl⟩ -
      refine z_al0 eX12_alike_77 ?_
      refine z_il5 eX12_alike_78 ?_
      refine z_il2 eX12_alike_80 ?_
      refine z_il3 eX12_alike_81 ?_
      refine zc_vi3 eX12_alike_82 lX12_290 tX12_placeIn zs117 (by decide) (Nat.le_of_ble_eq_true rfl) (r_placeIn _ _ rfl hb s (by omega) (b : Int) _ (by omega)) ?_
      rintro _ _ ⟨rfl, rfl⟩ -
      refine z_isubN eX12_alike_85 (by omega) (by omega) ?_
      refine z_abs (y := 0) eX12_alike_86 lX12_384 (by decide) (Nat.le_of_ble_eq_true rfl) (by omega) ?_
      refine z_ki eX12_alike_89 ?_
      refine z_cne eX12_alike_90 rfl (fun c90 => ?_) (fun c90 => ?_)
      · refine z_incN5 eX12_alike_108 zn0 (by omega) (by omega) ?_
        refine z_goto eX12_alike_111 rfl ?_
        rw [show sumN (alkS (g 122) a b) s = sumN (alkS (g 122) a b) (s + 1) by rw [sumN, show alkS (g 122) a b s = 0 from if_neg (by split at c90 <;> omega), Int.add_zero]]
        exact ih (r - 1) (by omega) (s + 1) (by omega)
      · refine z_il4 eX12_alike_93 ?_
        refine z_al0 eX12_alike_95 ?_
        refine z_ga eX12_alike_96 fX12_35 zs117 (t := 122) rfl ?_
        refine z_ki eX12_alike_99 ?_
        refine z_il5 eX12_alike_101 ?_
        refine z_iaddN eX12_alike_103 (by omega) (by omega) ?_
        refine zr_iN eX12_alike_104 zs122 (j := 20 + s) (by omega) (by omega) ?_
        refine z_iaddN eX12_alike_105 (by omega) (by omega) ?_
        refine z_is4 eX12_alike_106 zn0 ?_
        refine z_incN5 eX12_alike_108 zn0 (by omega) (by omega) ?_
        refine z_goto eX12_alike_111 rfl ?_
        rw [show sumN (alkS (g 122) a b) s + g 122 (20 + s) = sumN (alkS (g 122) a b) (s + 1) by rw [sumN, show alkS (g 122) a b s = g 122 (20 + s) from if_pos (by split at c90 <;> omega)]]
        exact ih (r - 1) (by omega) (s + 1) (by omega)
theorem r_alike (h : zHp) (D : Nat → Int) (hD : h 122 = D) (hb : dB D) (hst : D 2 < ((2 ^ nN D : Nat) : Int)) (a b : Int) : zCi mX12_alike 2 [zA 117, zI a, zI b] h (fun v h' => pM0 h (qAlike D a b) v h') := by
  refine z_enter [zA 117, zI a, zI b, zU, zU, zU] (by decide +kernel) (Nat.le_of_ble_eq_true rfl) rfl (fun hra hrg => ?_)
  refine z_al0 eX12_alike_0 ?_
  refine z_ki eX12_alike_1 ?_
  refine z_pi eX12_alike_2 pX12_98 zs117 ?_
  refine z_al0 eX12_alike_5 ?_
  refine z_ki eX12_alike_6 ?_
  refine z_pi eX12_alike_7 pX12_101 zs117 ?_
  generalize hg : zup (zup h 117 1 0) 117 0 0 = g
  obtain ⟨ga, gf, g0⟩ := m_g hg
  have gD : g 122 = D := (ga 122 (by decide)).trans hD
  subst gD
  have hN := nN_eq hb
  have hS := nS_eq hb
  have hN8 := nN_le hb
  have hS20 := nS_le hb
  have hb2 := hb.2.2.1
  refine z_al0 eX12_alike_10 ?_
  refine z_il1 eX12_alike_11 ?_
  refine zc_vi1 eX12_alike_12 lX12_278 tX12_isName zs117 (by decide) (Nat.le_of_ble_eq_true rfl) (r_isName _ _ rfl hb _) ?_
  rintro _ _ ⟨rfl, rfl⟩ -
  refine z_ieq eX12_alike_15 rfl (fun c15 => ?_) (fun c15 => ?_)
  · have z15 := iteF c15
    refine z_al0 eX12_alike_31 ?_
    refine z_ki eX12_alike_32 ?_
    refine zc_vi1 eX12_alike_33 lX12_275 tX12_refuse zs117 (by decide) (Nat.le_of_ble_eq_true rfl) (r_refuse _ _) ?_
    rintro _ _ ⟨rfl, rfl⟩ -
    refine ze_i eX12_alike_36 rfl ?_
    exact pM0_fr hg zMf.rf (by unfold qAlike; (repeat' split) <;> first | (exfalso; omega) | rfl)
  · have z15 := iteT c15
    refine z_al0 eX12_alike_18 ?_
    refine z_il2 eX12_alike_19 ?_
    refine zc_vi1 eX12_alike_20 lX12_278 tX12_isName zs117 (by decide) (Nat.le_of_ble_eq_true rfl) (r_isName _ _ rfl hb _) ?_
    rintro _ _ ⟨rfl, rfl⟩ -
    refine z_ieq eX12_alike_23 rfl (fun c23 => ?_) (fun c23 => ?_)
    · have z23 := iteF c23
      refine z_al0 eX12_alike_31 ?_
      refine z_ki eX12_alike_32 ?_
      refine zc_vi1 eX12_alike_33 lX12_275 tX12_refuse zs117 (by decide) (Nat.le_of_ble_eq_true rfl) (r_refuse _ _) ?_
      rintro _ _ ⟨rfl, rfl⟩ -
      refine ze_i eX12_alike_36 rfl ?_
      exact pM0_fr hg zMf.rf (by unfold qAlike; (repeat' split) <;> first | (exfalso; omega) | rfl)
    · have z23 := iteT c23
      refine z_il1 eX12_alike_26 ?_
      refine z_il2 eX12_alike_27 ?_
      refine z_cne eX12_alike_28 rfl (fun c28 => ?_) (fun c28 => ?_)
      · obtain ⟨a, rfl⟩ := Int.eq_ofNat_of_zero_le z15.1
        obtain ⟨b, rfl⟩ := Int.eq_ofNat_of_zero_le z23.1
        have hk1 := Nat.pow_le_pow_right (n := 2) (by omega) (show a ≤ 7 by omega)
        have hk2 := Nat.pow_le_pow_right (n := 2) (by omega) (show b ≤ 7 by omega)
        have hor := p2_256 hb (or_p2_lt (stL hb hst) (show a < nN (g 122) by omega))
        refine z_al0 eX12_alike_37 ?_
        refine z_ga eX12_alike_38 fX12_35 zs117 (t := 122) rfl ?_
        refine z_ki eX12_alike_41 ?_
        refine zr_iN eX12_alike_42 zs122 (j := 2) (by omega) (by omega) ?_
        refine z_ki eX12_alike_43 ?_
        refine z_il1 eX12_alike_44 ?_
        refine z_ishl eX12_alike_45 ?_
        refine z_ior eX12_alike_46 ?_
        rw [kb_shl1 (by omega), stN hb, kb_or (by omega) (by omega)]
        refine z_ki eX12_alike_47 ?_
        refine z_il2 eX12_alike_48 ?_
        refine z_ishl eX12_alike_49 ?_
        refine z_ior eX12_alike_50 ?_
        rw [kb_shl1 (by omega), kb_or (by omega) (by omega)]
        refine z_is3 eX12_alike_51 zn0 ?_
        refine z_ki eX12_alike_52 ?_
        refine z_is4 eX12_alike_53 zn0 ?_
        refine z_ki eX12_alike_55 ?_
        refine z_is5 eX12_alike_56 zn0 ?_
        rw [show qAlike (g 122) a b = (sumN (alkS (g 122) a b) (nS (g 122)), 0) by unfold qAlike; rw [if_pos ⟨z15, z23, by omega⟩]; rfl]
        exact r_alike_l h g hg _ rfl hb hst a b (by omega) (by omega) _ 0 (Nat.zero_add _)
      · refine z_al0 eX12_alike_31 ?_
        refine z_ki eX12_alike_32 ?_
        refine zc_vi1 eX12_alike_33 lX12_275 tX12_refuse zs117 (by decide) (Nat.le_of_ble_eq_true rfl) (r_refuse _ _) ?_
        rintro _ _ ⟨rfl, rfl⟩ -
        refine ze_i eX12_alike_36 rfl ?_
        exact pM0_fr hg zMf.rf (by unfold qAlike; (repeat' split) <;> first | (exfalso; omega) | rfl)
