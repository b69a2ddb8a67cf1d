-- act: one change, many changes (written by wip/tools/specE2.py)
def aSt : Type := (Nat → Int) × Int × Int × Int × Int × Int
def aSt.D (S : aSt) : Nat → Int := S.1
def aSt.dn (S : aSt) : Int := S.2.1
def aSt.cut (S : aSt) : Int := S.2.2.1
def aSt.ch (S : aSt) : Int := S.2.2.2.1
def aSt.co (S : aSt) : Int := S.2.2.2.2.1
def aSt.pu (S : aSt) : Int := S.2.2.2.2.2
def upD (D : Nat → Int) (i : Nat) (v : Int) : Nat → Int := fun j => if j = i then v else D j
theorem upD_at (D : Nat → Int) (i : Nat) (v : Int) : upD D i v i = v := if_pos rfl
theorem upD_ne {D : Nat → Int} {i j : Nat} {v : Int} (h : ¬ j = i) : upD D i v j = D j := if_neg h
def uD (k : Int) (w : Nat) (D : Nat → Int) : Nat → Int := if k < 2 then upD D 2 (((D 2).toNat ^^^ 2 ^ w : Nat) : Int) else if k = 2 then upD (upD D (20 + w) (D (20 + w) + 1)) (40 + w) (D (40 + w) + -1) else upD (upD D (20 + w) (D (20 + w) + -1)) (40 + w) (D (40 + w) + 1)
def csD (k : Int) (w : Nat) (D : Nat → Int) : Int := if k < 2 then D (3 + w) else D (60 + w)
def thD (k w : Int) (D : Nat → Int) : Prop := 0 ≤ w ∧ w < (if k < 2 then D 0 else D 1)
def cnD (k : Int) (w : Nat) (D : Nat → Int) : Prop := (k < 2 ∧ bv (D 2).toNat w = k) ∨ (k = 2 ∧ ¬ D (40 + w) = 0) ∨ (k = 3 ∧ ¬ D (20 + w) = 0)
def okC (sp k w : Int) (S : aSt) : Prop := thD k w S.D ∧ cnD k w.toNat S.D ∧ (sp = 1 → csD k w.toNat S.D ≤ S.pu)
def c1 (sp k w : Int) (S : aSt) : aSt := ⟨uD k w.toNat S.D, S.dn, S.cut, S.ch + 1, S.co + csD k w.toNat S.D, S.pu - (if sp = 1 then csD k w.toNat S.D else 0)⟩
noncomputable def cN (sp k w : Int) : Nat → aSt → aSt
  | 0, S => S
  | n + 1, S => @ite _ (okC sp k w S) (Classical.propDecidable _) (cN sp k w n (c1 sp k w S)) S
theorem cN_no {sp k w : Int} {S : aSt} (h : ¬ okC sp k w S) : ∀ n, cN sp k w n S = S := fun n => by
  cases n with
  | zero => rfl
  | succ n => rw [cN, if_neg h]
theorem cN_s {sp k w : Int} {S : aSt} (h : okC sp k w S) (n : Nat) : cN sp k w (n + 1) S = cN sp k w n (c1 sp k w S) := by rw [cN, if_pos h]
/-- the counters stay small: c more changes may come -/
def cG (c : Int) (S : aSt) : Prop := 0 ≤ S.ch ∧ S.ch + c ≤ 19800 ∧ 0 ≤ S.co ∧ S.co ≤ 99 * S.ch ∧ 0 ≤ S.pu ∧ S.pu ≤ 199800
theorem th_csD {k w : Int} {D : Nat → Int} (hb : dB D) (ht : thD k w D) : 0 ≤ csD k w.toNat D ∧ csD k w.toNat D ≤ 99 := by
  unfold thD at ht
  unfold csD
  have hN := nN_eq hb
  have hS := nS_eq hb
  by_cases q : k < 2
  · rw [if_pos q] at ht ⊢
    have := hb.2.2.2.2.2.1 w.toNat (by omega)
    omega
  · rw [if_neg q] at ht ⊢
    have := hb.2.2.2.2.1 w.toNat (by omega)
    omega
theorem c1_G {sp k w c : Int} {S : aSt} (hb : dB S.D) (h : okC sp k w S) (G : cG (c + 1) S) : cG c (c1 sp k w S) := by
  have h1 := th_csD hb h.1
  have h2 := h.2.2
  obtain ⟨g1, g2, g3, g4, g5, g6⟩ := G
  refine ⟨?_, ?_, ?_, ?_, ?_, ?_⟩
  · show 0 ≤ S.ch + 1; omega
  · show S.ch + 1 + c ≤ _; omega
  · show 0 ≤ S.co + _; omega
  · show S.co + _ ≤ 99 * (S.ch + 1); omega
  · show 0 ≤ S.pu - _
    by_cases q : sp = 1
    · have := h2 q
      rw [if_pos q]
      omega
    · rw [if_neg q]
      omega
  · show S.pu - _ ≤ _
    split <;> omega
/-- what the change of a hall does to its numbers -/
theorem uD_ok {h g : zHp} {D W : Nat → Int} {k w : Int} (H : HR h D W) (hk : 0 ≤ k ∧ k ≤ 3) (ht : thD k w D) : (chX h 4 k w.toNat = none → ¬ cnD k w.toNat D) ∧ (chX h 4 k w.toNat = some g → cnD k w.toNat D ∧ HR g (uD k w.toNat D) W ∧ ∀ a : Nat, ¬ a = 4 → ¬ a = 9 → ¬ a = 10 → g a = h a) := by
  obtain ⟨hb, hst, e0, e1, e7, ek, es, eo, hp⟩ := H.1
  have hN := nN_eq hb
  have hS := nS_eq hb
  have hN8 := nN_le hb
  have hS20 := nS_le hb
  have hb2 := hb.2.2.1
  obtain ⟨w, rfl⟩ := Int.eq_ofNat_of_zero_le ht.1
  have ht2 := ht.2
  simp only [Int.toNat_natCast]
  unfold chX cnD uD
  by_cases q : k < 2
  · rw [if_pos q] at ht2
    rw [if_pos q, if_pos q, e1]
    by_cases b : bv (D 2).toNat w = k
    · rw [if_pos b]
      refine ⟨fun z => (by cases z), fun z => ?_⟩
      cases z
      refine ⟨Or.inl ⟨q, b⟩, HR_upd H (fun b' hb' => zup_off (by omega)) (zup_ne (by decide)) (zup_ne (by decide)) (fun j h1 _ _ => upD_ne h1) ?_ ?_ (fun s hs => ?_), fun a h1 _ _ => zup_off h1⟩
      · rw [upD_at]
        have := Nat.xor_lt_two_pow (stL hb hst) (Nat.pow_lt_pow_right (by omega : 1 < 2) (show w < nN D by omega))
        omega
      · rw [upD_at, zup_at]
      · rw [zup_off (by decide), zup_off (by decide), upD_ne (by omega), upD_ne (by omega)]
        have q1 := es s hs
        have q2 := hb.2.2.2.2.1 s hs
        exact ⟨q1.1, q1.2.1, q2.1, q2.2.1, q2.2.2.1⟩
    · rw [if_neg b]
      exact ⟨fun _ z => by omega, fun z => by cases z⟩
  · rw [if_neg q] at ht2
    rw [if_neg q, if_neg q]
    have w1 := es w (by omega)
    have w2 := hb.2.2.2.2.1 w (by omega)
    by_cases q2 : k = 2
    · rw [if_pos q2, if_pos q2]
      by_cases b : h (4 + 6) w = 0
      · rw [if_pos b]
        exact ⟨fun _ z => by omega, fun z => by cases z⟩
      · rw [if_neg b]
        refine ⟨fun z => (by cases z), fun z => ?_⟩
        cases z
        refine ⟨by omega, HR_upd H (fun b' hb' => by rw [zup_off (by omega), zup_off (by omega)]) (by rw [zup_off (by decide), zup_off (by decide)]) (by rw [zup_off (by decide), zup_off (by decide)]) (fun j h1 h2 _ => by rw [upD_ne (by omega), upD_ne (by omega)]) ?_ ?_ (fun s hs => ?_), fun a h1 h2 h3 => by rw [zup_off h3, zup_off h2]⟩
        · rw [upD_ne (by omega), upD_ne (by omega)]; omega
        · rw [upD_ne (by omega), upD_ne (by omega), zup_off (by decide), zup_off (by decide)]; exact e1
        · have q1 := es s hs
          have q2 := hb.2.2.2.2.1 s hs
          by_cases e : s = w
          · subst e
            rw [zup_off (by decide), zup_at, zup_at, upD_ne (by omega), upD_at, upD_at]
            omega
          · rw [zup_off (by decide), zup_ne (by omega), zup_ne (by omega), zup_off (by decide), upD_ne (by omega), upD_ne (by omega), upD_ne (by omega), upD_ne (by omega)]
            exact ⟨q1.1, q1.2.1, q2.1, q2.2.1, q2.2.2.1⟩
    · rw [if_neg q2, if_neg q2]
      by_cases b : h (4 + 5) w = 0
      · rw [if_pos b]
        exact ⟨fun _ z => by omega, fun z => by cases z⟩
      · rw [if_neg b]
        refine ⟨fun z => (by cases z), fun z => ?_⟩
        cases z
        refine ⟨by omega, HR_upd H (fun b' hb' => by rw [zup_off (by omega), zup_off (by omega)]) (by rw [zup_off (by decide), zup_off (by decide)]) (by rw [zup_off (by decide), zup_off (by decide)]) (fun j h1 h2 _ => by rw [upD_ne (by omega), upD_ne (by omega)]) ?_ ?_ (fun s hs => ?_), fun a h1 h2 h3 => by rw [zup_off h3, zup_off h2]⟩
        · rw [upD_ne (by omega), upD_ne (by omega)]; omega
        · rw [upD_ne (by omega), upD_ne (by omega), zup_off (by decide), zup_off (by decide)]; exact e1
        · have q1 := es s hs
          have q2 := hb.2.2.2.2.1 s hs
          by_cases e : s = w
          · subst e
            rw [zup_off (by decide), zup_at, zup_at, upD_ne (by omega), upD_at, upD_at]
            omega
          · rw [zup_off (by decide), zup_ne (by omega), zup_ne (by omega), zup_off (by decide), upD_ne (by omega), upD_ne (by omega), upD_ne (by omega), upD_ne (by omega)]
            exact ⟨q1.1, q1.2.1, q2.1, q2.2.1, q2.2.2.1⟩
theorem HR_bd {h : zHp} {D W : Nat → Int} (H : HR h D W) : bdX h 4 := by
  obtain ⟨hb, hst, e0, e1, e7, ek, es, eo, hp⟩ := H.1
  have hS := nS_eq hb
  obtain ⟨b0, b1, b2, b3, b4, b5, b6, b7⟩ := hb
  refine ⟨by rw [e0]; exact b0, by rw [e7]; exact b1, by rw [e1]; exact b2, fun s hs => ?_⟩
  have q := es s (by omega)
  have q2 := b4 s (by omega)
  rw [q.1, q.2.1]
  exact ⟨q2.1, q2.2.1, q2.2.2.1⟩
theorem th_X {h : zHp} {D W : Nat → Int} (H : HR h D W) (k w : Int) : thX h 4 k w ↔ thD k w D := by
  obtain ⟨hb, hst, e0, e1, e7, -⟩ := H.1
  unfold thX thD
  rw [e0, e7]
theorem cs_X {h : zHp} {D W : Nat → Int} (H : HR h D W) {k w : Int} (ht : thD k w D) : (if k < 2 then h (4 + 2) w.toNat else h (4 + 7) w.toNat) = csD k w.toNat D := by
  obtain ⟨hb, hst, e0, e1, e7, ek, es, eo, hp⟩ := H.1
  have hN := nN_eq hb
  have hS := nS_eq hb
  unfold thD at ht
  unfold csD
  by_cases q : k < 2
  · rw [if_pos q] at ht
    rw [if_pos q, if_pos q]
    exact (ek w.toNat (by omega)).2.1
  · rw [if_neg q] at ht
    rw [if_neg q, if_neg q]
    exact (es w.toNat (by omega)).2.2
/-- the class's heap stands at S; h is the heap at the start -/
def xS (h : zHp) (W : Nat → Int) (S : aSt) (g : zHp) : Prop := HR g S.D W ∧ g 65 4 = 1 ∧ g 65 5 = S.ch ∧ g 65 6 = S.co ∧ g 65 7 = S.pu ∧ g 65 8 = S.cut ∧ ∀ a : Nat, ¬ a = 4 → ¬ a = 9 → ¬ a = 10 → ¬ a = 51 → ¬ a = 65 → ¬ a = 66 → g a = h a
theorem uD_lo {k : Int} {w : Nat} {D : Nat → Int} {j : Nat} (h2 : ¬ j = 2) (h3 : ¬ (20 ≤ j ∧ j < 60)) (hw : w < 20) : uD k w D j = D j := by
  unfold uD
  split
  · exact upD_ne h2
  · split <;> rw [upD_ne (by omega), upD_ne (by omega)]
theorem th_c1 {k w : Int} {w' : Nat} {D : Nat → Int} (hw : w' < 20) : thD k w (uD k w' D) ↔ thD k w D := by
  unfold thD
  rw [uD_lo (by omega) (by omega) hw, uD_lo (by omega) (by omega) hw]
theorem cs_c1 {k : Int} {w w' : Nat} {D : Nat → Int} (hw : w' < 20) (h8 : k < 2 → w < 8) : csD k w (uD k w' D) = csD k w D := by
  unfold csD
  by_cases q : k < 2
  · rw [if_pos q, if_pos q, uD_lo (by omega) (by omega) hw]
  · rw [if_neg q, if_neg q, uD_lo (by omega) (by omega) hw]
theorem th_w {k w : Int} {D : Nat → Int} (hb : dB D) (h : thD k w D) : w.toNat < 20 ∧ (k < 2 → w.toNat < 8) ∧ (w.toNat : Int) = w := by
  unfold thD at h
  have b0 := hb.1
  have b1 := hb.2.1
  split at h <;> omega
theorem x_chg_l (h : zHp) (W : Nat → Int) (sp k w cost : Int) (n : Nat) (hn : n ≤ 99) (hsp : h 32 2 = sp) (hs01 : sp = 0 ∨ sp = 1) (hk : 0 ≤ k ∧ k ≤ 3) (hcb : 0 ≤ cost ∧ cost ≤ 99) (R : Nat → Int) : ∀ (r i : Nat) (g : zHp) (S : aSt), i + r = n → xS h W S g → g 66 = R → cG r S → (thD k w S.D → csD k w.toNat S.D = cost) → zRW mX3_change 2 (0, 0) 14 [zA 65, zI k, zI w, zI n, zI cost, zI i] [] 143 g (zqv (fun h' => xS h W (cN sp k w r S) h' ∧ h' 66 = R)) := by
  intro r
  induction r using Nat.strongRecOn with
  | ind r ih =>
    intro i g S hi Hx h66 G hc
    obtain ⟨H, x4, x5, x6, x7, x8, xo⟩ := id Hx
    obtain ⟨g1, g2, g3, g4, g5, g6⟩ := id G
    have p32 : g 32 2 = sp := by rw [xo 32 (by decide) (by decide) (by decide) (by decide) (by decide) (by decide)]; exact hsp
    refine z_il5 eX3_change_14 ?_
    refine z_il3 eX3_change_16 ?_
    refine z_cge eX3_change_17 rfl (fun c17 => ?_) (fun c17 => ?_)
    · refine ze_v eX3_change_104 rfl ?_
      have e : r = 0 := by omega
      subst e
      exact ⟨Hx, h66⟩
    · refine z_al0 eX3_change_20 ?_
      refine z_ga eX3_change_21 fX3_17 zs65 (t := 32) rfl ?_
      refine z_gi eX3_change_24 fX3_107 zs32 ?_
      rw [p32]
      refine z_ieq eX3_change_27 rfl (fun c27 => ?_) (fun c27 => ?_)
      · refine z_al0 eX3_change_39 ?_
        refine z_ga eX3_change_40 fX3_21 zs65 (t := 4) rfl ?_
        refine z_il1 eX3_change_43 ?_
        refine z_il2 eX3_change_44 ?_
        refine zc_vi2 eX3_change_45 lX3_110 tX5_change zs4 (by decide) (Nat.le_of_ble_eq_true rfl) (x_change g 4 (Or.inl rfl) (HR_bd H) k w hk) ?_
        rintro y f ⟨u0, u1⟩ -
        rw [th_X H] at u0 u1
        refine z_ine eX3_change_48 rfl (fun c48 => ?_) (fun c48 => ?_)
        · obtain ⟨r, rfl⟩ : ∃ m, r = m + 1 := ⟨r - 1, by omega⟩
          have ht : thD k w S.D := Classical.byContradiction (fun z => by have := (u0 z).1; omega)
          obtain ⟨v1, v2⟩ := u1 ht
          have hso : chX g 4 k w.toNat = some f := by
            cases hq : chX g 4 k w.toNat with
            | none => have := (v2 hq).1; omega
            | some f2 => rw [(v1 f2 hq).2]
          obtain ⟨hcn, HR2, hf⟩ := (uD_ok H hk ht).2 hso
          have hcc := hc ht
          have ok : okC sp k w S := ⟨ht, hcn, fun e => by omega⟩
          have tw := th_w H.1.1 ht
          have f65 : f 65 = g 65 := hf 65 (by decide) (by decide) (by decide)
          have f32 : f 32 2 = sp := by rw [hf 32 (by decide) (by decide) (by decide)]; exact p32
          refine z_al0 eX3_change_52 ?_
          refine z_dup eX3_change_53 zn2 ?_
          refine z_gi eX3_change_54 fX3_40 zs65 ?_
          rw [f65, x7]
          refine z_al0 eX3_change_57 ?_
          refine z_ga eX3_change_58 fX3_17 zs65 (t := 32) rfl ?_
          refine z_gi eX3_change_61 fX3_107 zs32 ?_
          rw [f32]
          refine z_ieq eX3_change_64 rfl (fun c64 => ?_) (fun c64 => ?_)
          · refine z_ki eX3_change_72 ?_
            refine z_isubN eX3_change_73 (by omega) (by omega) ?_
            refine z_pi eX3_change_74 pX3_40 zs65 ?_
            refine z_al0 eX3_change_77 ?_
            refine z_dup eX3_change_78 zn2 ?_
            refine z_gi eX3_change_79 fX3_37 zs65 ?_
            rw [zup_ne (by decide), f65, x6]
            refine z_il4 eX3_change_82 ?_
            refine z_iaddN eX3_change_84 (by omega) (by omega) ?_
            refine z_pi eX3_change_85 pX3_37 zs65 ?_
            refine z_al0 eX3_change_88 ?_
            refine z_dup eX3_change_89 zn2 ?_
            refine z_gi eX3_change_90 fX3_33 zs65 ?_
            rw [zup_ne (by decide), zup_ne (by decide), f65, x5]
            refine z_ki eX3_change_93 ?_
            refine z_iaddN eX3_change_94 (by omega) (by omega) ?_
            refine z_pi eX3_change_95 pX3_33 zs65 ?_
            refine z_incN5 eX3_change_98 zn0 (by omega) (by omega) ?_
            refine z_goto eX3_change_101 rfl ?_
            rw [cN_s ok]
            refine ih r (by omega) (i + 1) _ (c1 sp k w S) (by omega) ⟨HR_fr HR2 (fun b hb => by rw [zup_off (by omega), zup_off (by omega), zup_off (by omega)]), ?_, ?_, ?_, ?_, ?_, ?_⟩ ?_ (c1_G H.1.1 ok (by rw [show ((r : Nat) : Int) + 1 = ((r + 1 : Nat) : Int) by omega]; exact G)) ?_
            · rw [zup_ne (by decide), zup_ne (by decide), zup_ne (by decide), f65]; exact x4
            · rw [zup_at]; rfl
            · rw [zup_ne (by decide), zup_at]; show _ = S.co + _; rw [hcc]
            · rw [zup_ne (by decide), zup_ne (by decide), zup_at]; show _ = S.pu - _; rw [if_neg (by omega)]
            · rw [zup_ne (by decide), zup_ne (by decide), zup_ne (by decide), f65]; exact x8
            · intro a a1 a2 a3 a4 a5 a6; rw [zup_off a5, zup_off a5, zup_off a5, hf a a1 a2 a3]; exact xo a a1 a2 a3 a4 a5 a6
            · rw [zup_off (by decide), zup_off (by decide), zup_off (by decide), hf 66 (by decide) (by decide) (by decide)]; exact h66
            · intro z; exact (cs_c1 tw.1 tw.2.1).trans hcc
          · refine z_il4 eX3_change_67 ?_
            refine z_goto eX3_change_69 rfl ?_
            refine z_isubN eX3_change_73 (by omega) (by omega) ?_
            refine z_pi eX3_change_74 pX3_40 zs65 ?_
            refine z_al0 eX3_change_77 ?_
            refine z_dup eX3_change_78 zn2 ?_
            refine z_gi eX3_change_79 fX3_37 zs65 ?_
            rw [zup_ne (by decide), f65, x6]
            refine z_il4 eX3_change_82 ?_
            refine z_iaddN eX3_change_84 (by omega) (by omega) ?_
            refine z_pi eX3_change_85 pX3_37 zs65 ?_
            refine z_al0 eX3_change_88 ?_
            refine z_dup eX3_change_89 zn2 ?_
            refine z_gi eX3_change_90 fX3_33 zs65 ?_
            rw [zup_ne (by decide), zup_ne (by decide), f65, x5]
            refine z_ki eX3_change_93 ?_
            refine z_iaddN eX3_change_94 (by omega) (by omega) ?_
            refine z_pi eX3_change_95 pX3_33 zs65 ?_
            refine z_incN5 eX3_change_98 zn0 (by omega) (by omega) ?_
            refine z_goto eX3_change_101 rfl ?_
            rw [cN_s ok]
            refine ih r (by omega) (i + 1) _ (c1 sp k w S) (by omega) ⟨HR_fr HR2 (fun b hb => by rw [zup_off (by omega), zup_off (by omega), zup_off (by omega)]), ?_, ?_, ?_, ?_, ?_, ?_⟩ ?_ (c1_G H.1.1 ok (by rw [show ((r : Nat) : Int) + 1 = ((r + 1 : Nat) : Int) by omega]; exact G)) ?_
            · rw [zup_ne (by decide), zup_ne (by decide), zup_ne (by decide), f65]; exact x4
            · rw [zup_at]; rfl
            · rw [zup_ne (by decide), zup_at]; show _ = S.co + _; rw [hcc]
            · rw [zup_ne (by decide), zup_ne (by decide), zup_at]; show _ = S.pu - _; rw [if_pos (by omega), hcc]
            · rw [zup_ne (by decide), zup_ne (by decide), zup_ne (by decide), f65]; exact x8
            · intro a a1 a2 a3 a4 a5 a6; rw [zup_off a5, zup_off a5, zup_off a5, hf a a1 a2 a3]; exact xo a a1 a2 a3 a4 a5 a6
            · rw [zup_off (by decide), zup_off (by decide), zup_off (by decide), hf 66 (by decide) (by decide) (by decide)]; exact h66
            · intro z; exact (cs_c1 tw.1 tw.2.1).trans hcc
        · refine ze_v eX3_change_51 rfl ?_
          have hf0 : f = g := by
            by_cases ht : thD k w S.D
            · obtain ⟨v1, v2⟩ := u1 ht
              cases hq : chX g 4 k w.toNat with
              | none => exact (v2 hq).2.symm
              | some f2 => have := (v1 f2 hq).1; omega
            · exact (u0 ht).2.symm
          subst hf0
          rw [cN_no (fun ok => ?_)]
          · exact ⟨Hx, h66⟩
          · obtain ⟨v1, v2⟩ := u1 ok.1
            cases hq : chX f 4 k w.toNat with
            | none => exact (uD_ok (g := f) H hk ok.1).1 hq ok.2.1
            | some f2 => have := (v1 f2 hq).1; omega
      · refine z_il4 eX3_change_30 ?_
        refine z_al0 eX3_change_32 ?_
        refine z_gi eX3_change_33 fX3_40 zs65 ?_
        rw [x7]
        refine z_cgt eX3_change_36 rfl (fun c36 => ?_) (fun c36 => ?_)
        · refine ze_v eX3_change_51 rfl ?_
          rw [cN_no (fun ok => ?_)]
          · exact ⟨Hx, h66⟩
          · have := ok.2.2 (by omega)
            have := hc ok.1
            omega
        · refine z_al0 eX3_change_39 ?_
          refine z_ga eX3_change_40 fX3_21 zs65 (t := 4) rfl ?_
          refine z_il1 eX3_change_43 ?_
          refine z_il2 eX3_change_44 ?_
          refine zc_vi2 eX3_change_45 lX3_110 tX5_change zs4 (by decide) (Nat.le_of_ble_eq_true rfl) (x_change g 4 (Or.inl rfl) (HR_bd H) k w hk) ?_
          rintro y f ⟨u0, u1⟩ -
          rw [th_X H] at u0 u1
          refine z_ine eX3_change_48 rfl (fun c48 => ?_) (fun c48 => ?_)
          · obtain ⟨r, rfl⟩ : ∃ m, r = m + 1 := ⟨r - 1, by omega⟩
            have ht : thD k w S.D := Classical.byContradiction (fun z => by have := (u0 z).1; omega)
            obtain ⟨v1, v2⟩ := u1 ht
            have hso : chX g 4 k w.toNat = some f := by
              cases hq : chX g 4 k w.toNat with
              | none => have := (v2 hq).1; omega
              | some f2 => rw [(v1 f2 hq).2]
            obtain ⟨hcn, HR2, hf⟩ := (uD_ok H hk ht).2 hso
            have hcc := hc ht
            have ok : okC sp k w S := ⟨ht, hcn, fun e => by omega⟩
            have tw := th_w H.1.1 ht
            have f65 : f 65 = g 65 := hf 65 (by decide) (by decide) (by decide)
            have f32 : f 32 2 = sp := by rw [hf 32 (by decide) (by decide) (by decide)]; exact p32
            refine z_al0 eX3_change_52 ?_
            refine z_dup eX3_change_53 zn2 ?_
            refine z_gi eX3_change_54 fX3_40 zs65 ?_
            rw [f65, x7]
            refine z_al0 eX3_change_57 ?_
            refine z_ga eX3_change_58 fX3_17 zs65 (t := 32) rfl ?_
            refine z_gi eX3_change_61 fX3_107 zs32 ?_
            rw [f32]
            refine z_ieq eX3_change_64 rfl (fun c64 => ?_) (fun c64 => ?_)
            · refine z_ki eX3_change_72 ?_
              refine z_isubN eX3_change_73 (by omega) (by omega) ?_
              refine z_pi eX3_change_74 pX3_40 zs65 ?_
              refine z_al0 eX3_change_77 ?_
              refine z_dup eX3_change_78 zn2 ?_
              refine z_gi eX3_change_79 fX3_37 zs65 ?_
              rw [zup_ne (by decide), f65, x6]
              refine z_il4 eX3_change_82 ?_
              refine z_iaddN eX3_change_84 (by omega) (by omega) ?_
              refine z_pi eX3_change_85 pX3_37 zs65 ?_
              refine z_al0 eX3_change_88 ?_
              refine z_dup eX3_change_89 zn2 ?_
              refine z_gi eX3_change_90 fX3_33 zs65 ?_
              rw [zup_ne (by decide), zup_ne (by decide), f65, x5]
              refine z_ki eX3_change_93 ?_
              refine z_iaddN eX3_change_94 (by omega) (by omega) ?_
              refine z_pi eX3_change_95 pX3_33 zs65 ?_
              refine z_incN5 eX3_change_98 zn0 (by omega) (by omega) ?_
              refine z_goto eX3_change_101 rfl ?_
              rw [cN_s ok]
              refine ih r (by omega) (i + 1) _ (c1 sp k w S) (by omega) ⟨HR_fr HR2 (fun b hb => by rw [zup_off (by omega), zup_off (by omega), zup_off (by omega)]), ?_, ?_, ?_, ?_, ?_, ?_⟩ ?_ (c1_G H.1.1 ok (by rw [show ((r : Nat) : Int) + 1 = ((r + 1 : Nat) : Int) by omega]; exact G)) ?_
              · rw [zup_ne (by decide), zup_ne (by decide), zup_ne (by decide), f65]; exact x4
              · rw [zup_at]; rfl
              · rw [zup_ne (by decide), zup_at]; show _ = S.co + _; rw [hcc]
              · rw [zup_ne (by decide), zup_ne (by decide), zup_at]; show _ = S.pu - _; rw [if_neg (by omega)]
              · rw [zup_ne (by decide), zup_ne (by decide), zup_ne (by decide), f65]; exact x8
              · intro a a1 a2 a3 a4 a5 a6; rw [zup_off a5, zup_off a5, zup_off a5, hf a a1 a2 a3]; exact xo a a1 a2 a3 a4 a5 a6
              · rw [zup_off (by decide), zup_off (by decide), zup_off (by decide), hf 66 (by decide) (by decide) (by decide)]; exact h66
              · intro z; exact (cs_c1 tw.1 tw.2.1).trans hcc
            · refine z_il4 eX3_change_67 ?_
              refine z_goto eX3_change_69 rfl ?_
              refine z_isubN eX3_change_73 (by omega) (by omega) ?_
              refine z_pi eX3_change_74 pX3_40 zs65 ?_
              refine z_al0 eX3_change_77 ?_
              refine z_dup eX3_change_78 zn2 ?_
              refine z_gi eX3_change_79 fX3_37 zs65 ?_
              rw [zup_ne (by decide), f65, x6]
              refine z_il4 eX3_change_82 ?_
              refine z_iaddN eX3_change_84 (by omega) (by omega) ?_
              refine z_pi eX3_change_85 pX3_37 zs65 ?_
              refine z_al0 eX3_change_88 ?_
              refine z_dup eX3_change_89 zn2 ?_
              refine z_gi eX3_change_90 fX3_33 zs65 ?_
              rw [zup_ne (by decide), zup_ne (by decide), f65, x5]
              refine z_ki eX3_change_93 ?_
              refine z_iaddN eX3_change_94 (by omega) (by omega) ?_
              refine z_pi eX3_change_95 pX3_33 zs65 ?_
              refine z_incN5 eX3_change_98 zn0 (by omega) (by omega) ?_
              refine z_goto eX3_change_101 rfl ?_
              rw [cN_s ok]
              refine ih r (by omega) (i + 1) _ (c1 sp k w S) (by omega) ⟨HR_fr HR2 (fun b hb => by rw [zup_off (by omega), zup_off (by omega), zup_off (by omega)]), ?_, ?_, ?_, ?_, ?_, ?_⟩ ?_ (c1_G H.1.1 ok (by rw [show ((r : Nat) : Int) + 1 = ((r + 1 : Nat) : Int) by omega]; exact G)) ?_
              · rw [zup_ne (by decide), zup_ne (by decide), zup_ne (by decide), f65]; exact x4
              · rw [zup_at]; rfl
              · rw [zup_ne (by decide), zup_at]; show _ = S.co + _; rw [hcc]
              · rw [zup_ne (by decide), zup_ne (by decide), zup_at]; show _ = S.pu - _; rw [if_pos (by omega), hcc]
              · rw [zup_ne (by decide), zup_ne (by decide), zup_ne (by decide), f65]; exact x8
              · intro a a1 a2 a3 a4 a5 a6; rw [zup_off a5, zup_off a5, zup_off a5, hf a a1 a2 a3]; exact xo a a1 a2 a3 a4 a5 a6
              · rw [zup_off (by decide), zup_off (by decide), zup_off (by decide), hf 66 (by decide) (by decide) (by decide)]; exact h66
              · intro z; exact (cs_c1 tw.1 tw.2.1).trans hcc
          · refine ze_v eX3_change_51 rfl ?_
            have hf0 : f = g := by
              by_cases ht : thD k w S.D
              · obtain ⟨v1, v2⟩ := u1 ht
                cases hq : chX g 4 k w.toNat with
                | none => exact (v2 hq).2.symm
                | some f2 => have := (v1 f2 hq).1; omega
              · exact (u0 ht).2.symm
            subst hf0
            rw [cN_no (fun ok => ?_)]
            · exact ⟨Hx, h66⟩
            · obtain ⟨v1, v2⟩ := u1 ok.1
              cases hq : chX f 4 k w.toNat with
              | none => exact (uD_ok (g := f) H hk ok.1).1 hq ok.2.1
              | some f2 => have := (v1 f2 hq).1; omega
theorem x_chg (h : zHp) (W : Nat → Int) (sp k w : Int) (n : Nat) (hn : n ≤ 99) (hsp : h 32 2 = sp) (hs01 : sp = 0 ∨ sp = 1) (hk : 0 ≤ k ∧ k ≤ 3) (g : zHp) (S : aSt) (Hx : xS h W S g) (G : cG n S) : zCv mX3_change 2 [zA 65, zI k, zI w, zI n] g (fun h' => xS h W (cN sp k w n S) h' ∧ h' 66 = g 66) := by
  refine z_enter [zA 65, zI k, zI w, zI n, zU, zU] (by decide +kernel) (Nat.le_of_ble_eq_true rfl) rfl (fun hra hrg => ?_)
  refine z_al0 eX3_change_0 ?_
  refine z_ga eX3_change_1 fX3_21 zs65 (t := 4) rfl ?_
  refine z_il1 eX3_change_4 ?_
  refine z_il2 eX3_change_5 ?_
  refine zc_vi2 eX3_change_6 lX3_104 tX5_costOf zs4 (by decide) (Nat.le_of_ble_eq_true rfl) (x_costOf g 4 (Or.inl rfl) (HR_bd Hx.1) k w hk) ?_
  rintro y _ ⟨u1, u2, rfl⟩ -
  rw [th_X Hx.1] at u1 u2
  have hcy : (thD k w S.D → csD k w.toNat S.D = y) ∧ 0 ≤ y ∧ y ≤ 99 := by
    by_cases ht : thD k w S.D
    · have := u1 ht
      rw [cs_X Hx.1 ht] at this
      have q := th_csD Hx.1.1.1 ht
      exact ⟨fun _ => this, by omega⟩
    · have := u2 ht
      exact ⟨fun z => absurd z ht, by omega⟩
  refine z_is4 eX3_change_9 zn0 ?_
  refine z_ki eX3_change_11 ?_
  refine z_is5 eX3_change_12 zn0 ?_
  exact x_chg_l h W sp k w y n hn hsp hs01 hk hcy.2 (g 66) n 0 g S (Nat.zero_add _) Hx rfl G hcy.1
