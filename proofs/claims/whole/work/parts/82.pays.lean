-- act: the reference's changes (written by wip/tools/specE3.py)
theorem zup_upD (g : zHp) (a i : Nat) (v : Int) : zup g a i v a = upD (g a) i v := funext (fun j => by unfold zup upD; simp)
theorem dB_upd {D D' : Nat → Int} (hb : dB D) (eD : ∀ j : Nat, ¬ j = 2 → ¬ (20 ≤ j ∧ j < 60) → j < 300 → D' j = D j) (h2 : 0 ≤ D' 2 ∧ D' 2 < 256) (h3 : ∀ s : Nat, s < nS D → 0 ≤ D' (20 + s) ∧ 0 ≤ D' (40 + s) ∧ D' (20 + s) + D' (40 + s) ≤ 198) : dB D' ∧ nN D' = nN D ∧ nS D' = nS D := by
  have hN8 := nN_le hb
  have hS20 := nS_le hb
  have eN : nN D' = nN D := by unfold nN; rw [eD 0 (by omega) (by omega) (by omega)]
  have eS : nS D' = nS D := by unfold nS; rw [eD 1 (by omega) (by omega) (by omega)]
  refine ⟨?_, eN, eS⟩
  obtain ⟨b0, b1, b2, b3, b4, b5, b6, b7⟩ := hb
  unfold dB
  rw [eN, eS, eD 0 (by omega) (by omega) (by omega), eD 1 (by omega) (by omega) (by omega), eD 240 (by omega) (by omega) (by omega)]
  refine ⟨b0, b1, h2, fun s k hs hk => ?_, fun s hs => ?_, fun k hk => ?_, b6, fun c hc4 => ?_⟩
  · rw [eD _ (by omega) (by omega) (by omega)]; exact b3 s k hs hk
  · rw [eD (60 + s) (by omega) (by omega) (by omega)]
    have q := h3 s hs
    exact ⟨q.1, q.2.1, q.2.2, (b4 s hs).2.2.2⟩
  · rw [eD _ (by omega) (by omega) (by omega), eD _ (by omega) (by omega) (by omega)]; exact b5 k hk
  · have q := b7 c hc4
    rw [eD (241 + c) (by omega) (by omega) (by omega), eD (245 + c) (by omega) (by omega) (by omega), eD (249 + c) (by omega) (by omega) (by omega)]
    exact ⟨q.1, q.2.1, q.2.2.1, q.2.2.2.1, q.2.2.2.2.1, q.2.2.2.2.2.1, fun i hi => by rw [eD _ (by omega) (by omega) (by omega)]; exact q.2.2.2.2.2.2 i hi⟩
theorem uD_dB {k w : Int} {D : Nat → Int} (hb : dB D) (hst : D 2 < ((2 ^ nN D : Nat) : Int)) (ht : thD k w D) (hc : cnD k w.toNat D) : dB (uD k w.toNat D) ∧ nN (uD k w.toNat D) = nN D ∧ uD k w.toNat D 2 < ((2 ^ nN D : Nat) : Int) := by
  have hN := nN_eq hb
  have hS := nS_eq hb
  have hN8 := nN_le hb
  have hS20 := nS_le hb
  have hb2 := hb.2.2.1
  have h256 := p2le hN8
  have tw := th_w hb ht
  have ht2 := ht.2
  have h2 : 0 ≤ uD k w.toNat D 2 ∧ uD k w.toNat D 2 < ((2 ^ nN D : Nat) : Int) := by
    unfold uD
    split
    · next q =>
      rw [upD_at]
      rw [if_pos q] at ht2
      have := Nat.xor_lt_two_pow (stL hb hst) (Nat.pow_lt_pow_right (by omega : 1 < 2) (show w.toNat < nN D by omega))
      omega
    · split <;> (rw [upD_ne (by omega), upD_ne (by omega)]; omega)
  have h3 := dB_upd (D' := uD k w.toNat D) hb (fun j j1 j2 _ => uD_lo j1 j2 tw.1) (by omega) (fun s hs => by
    have q2 := hb.2.2.2.2.1 s hs
    unfold uD
    unfold cnD at hc
    split
    · rw [upD_ne (by omega), upD_ne (by omega)]; omega
    · next q =>
      rw [if_neg q] at ht2
      by_cases e : s = w.toNat
      · subst e
        split
        · rw [upD_ne (by omega), upD_at, upD_at]; omega
        · rw [upD_ne (by omega), upD_at, upD_at]; omega
      · split
        · rw [upD_ne (by omega), upD_ne (by omega), upD_ne (by omega), upD_ne (by omega)]; omega
        · rw [upD_ne (by omega), upD_ne (by omega), upD_ne (by omega), upD_ne (by omega)]; omega)
  exact ⟨h3.1, h3.2.1, h2.2⟩
/-- the reference's heap stands at S -/
def mS (h : zHp) (S : aSt) (g : zHp) : Prop := (dB S.D ∧ S.D 2 < ((2 ^ nN S.D : Nat) : Int)) ∧ g 122 = S.D ∧ (g 117 28 = S.dn ∧ g 117 29 = S.cut ∧ g 117 30 = S.ch ∧ g 117 31 = S.co ∧ g 117 32 = S.pu) ∧ (∀ a : Nat, ¬ a = 117 → ¬ a = 122 → ¬ a = 124 → ¬ a = 125 → g a = h a) ∧ ∀ i : Nat, ¬ i = 25 → ¬ (28 ≤ i ∧ i ≤ 32) → g 117 i = h 117 i
theorem r_pays (g : zHp) (c : Int) (hc : 0 ≤ c ∧ c ≤ 99) (hs : g 117 33 = 0 ∨ g 117 33 = 1) (b0 : 0 ≤ g 117 30 ∧ g 117 30 ≤ 19800) (b1 : 0 ≤ g 117 31 ∧ g 117 31 ≤ 1960200) (b2 : 0 ≤ g 117 32 ∧ g 117 32 ≤ 199800) : zCi mX12_pays 0 [zA 117, zI c] g (fun v h' => (g 117 33 = 1 ∧ g 117 32 < c → (0 : Int) = v ∧ g = h') ∧ (¬ (g 117 33 = 1 ∧ g 117 32 < c) → (1 : Int) = v ∧ zup (zup (zup g 117 32 (g 117 32 - (if g 117 33 = 1 then c else 0))) 117 31 (g 117 31 + c)) 117 30 (g 117 30 + 1) = h')) := by
  refine z_enter [zA 117, zI c] (by decide +kernel) (Nat.le_of_ble_eq_true rfl) rfl (fun hra hrg => ?_)
  refine z_al0 eX12_pays_0 ?_
  refine z_gi eX12_pays_1 fX12_498 zs117 ?_
  refine z_ieq eX12_pays_4 rfl (fun c4 => ?_) (fun c4 => ?_)
  · refine z_al0 eX12_pays_17 ?_
    refine z_dup eX12_pays_18 zn2 ?_
    refine z_gi eX12_pays_19 fX12_505 zs117 ?_
    refine z_al0 eX12_pays_22 ?_
    refine z_gi eX12_pays_23 fX12_498 zs117 ?_
    refine z_ieq eX12_pays_26 rfl (fun c26 => ?_) (fun c26 => ?_)
    · refine z_ki eX12_pays_33 ?_
      refine z_isubN eX12_pays_34 (by omega) (by omega) ?_
      refine z_pi eX12_pays_35 pX12_505 zs117 ?_
      refine z_al0 eX12_pays_38 ?_
      refine z_dup eX12_pays_39 zn2 ?_
      refine z_gi eX12_pays_40 fX12_508 zs117 ?_
      rw [zup_ne (by decide)]
      refine z_il1 eX12_pays_43 ?_
      refine z_iaddN eX12_pays_44 (by omega) (by omega) ?_
      refine z_pi eX12_pays_45 pX12_508 zs117 ?_
      refine z_al0 eX12_pays_48 ?_
      refine z_dup eX12_pays_49 zn2 ?_
      refine z_gi eX12_pays_50 fX12_511 zs117 ?_
      rw [zup_ne (by decide), zup_ne (by decide)]
      refine z_ki eX12_pays_53 ?_
      refine z_iaddN eX12_pays_54 (by omega) (by omega) ?_
      refine z_pi eX12_pays_55 pX12_511 zs117 ?_
      refine z_ki eX12_pays_58 ?_
      refine ze_z eX12_pays_59 rfl (by first | exact Or.inl rfl | exact Or.inr rfl) ?_
      refine ⟨fun q => by omega, fun _ => ⟨rfl, ?_⟩⟩
      rw [if_neg (by omega)]
    · refine z_il1 eX12_pays_29 ?_
      refine z_goto eX12_pays_30 rfl ?_
      refine z_isubN eX12_pays_34 (by omega) (by omega) ?_
      refine z_pi eX12_pays_35 pX12_505 zs117 ?_
      refine z_al0 eX12_pays_38 ?_
      refine z_dup eX12_pays_39 zn2 ?_
      refine z_gi eX12_pays_40 fX12_508 zs117 ?_
      rw [zup_ne (by decide)]
      refine z_il1 eX12_pays_43 ?_
      refine z_iaddN eX12_pays_44 (by omega) (by omega) ?_
      refine z_pi eX12_pays_45 pX12_508 zs117 ?_
      refine z_al0 eX12_pays_48 ?_
      refine z_dup eX12_pays_49 zn2 ?_
      refine z_gi eX12_pays_50 fX12_511 zs117 ?_
      rw [zup_ne (by decide), zup_ne (by decide)]
      refine z_ki eX12_pays_53 ?_
      refine z_iaddN eX12_pays_54 (by omega) (by omega) ?_
      refine z_pi eX12_pays_55 pX12_511 zs117 ?_
      refine z_ki eX12_pays_58 ?_
      refine ze_z eX12_pays_59 rfl (by first | exact Or.inl rfl | exact Or.inr rfl) ?_
      refine ⟨fun q => by omega, fun _ => ⟨rfl, ?_⟩⟩
      rw [if_pos (by omega)]
  · refine z_al0 eX12_pays_7 ?_
    refine z_gi eX12_pays_8 fX12_505 zs117 ?_
    refine z_il1 eX12_pays_11 ?_
    refine z_cge eX12_pays_12 rfl (fun c12 => ?_) (fun c12 => ?_)
    · refine z_al0 eX12_pays_17 ?_
      refine z_dup eX12_pays_18 zn2 ?_
      refine z_gi eX12_pays_19 fX12_505 zs117 ?_
      refine z_al0 eX12_pays_22 ?_
      refine z_gi eX12_pays_23 fX12_498 zs117 ?_
      refine z_ieq eX12_pays_26 rfl (fun c26 => ?_) (fun c26 => ?_)
      · refine z_ki eX12_pays_33 ?_
        refine z_isubN eX12_pays_34 (by omega) (by omega) ?_
        refine z_pi eX12_pays_35 pX12_505 zs117 ?_
        refine z_al0 eX12_pays_38 ?_
        refine z_dup eX12_pays_39 zn2 ?_
        refine z_gi eX12_pays_40 fX12_508 zs117 ?_
        rw [zup_ne (by decide)]
        refine z_il1 eX12_pays_43 ?_
        refine z_iaddN eX12_pays_44 (by omega) (by omega) ?_
        refine z_pi eX12_pays_45 pX12_508 zs117 ?_
        refine z_al0 eX12_pays_48 ?_
        refine z_dup eX12_pays_49 zn2 ?_
        refine z_gi eX12_pays_50 fX12_511 zs117 ?_
        rw [zup_ne (by decide), zup_ne (by decide)]
        refine z_ki eX12_pays_53 ?_
        refine z_iaddN eX12_pays_54 (by omega) (by omega) ?_
        refine z_pi eX12_pays_55 pX12_511 zs117 ?_
        refine z_ki eX12_pays_58 ?_
        refine ze_z eX12_pays_59 rfl (by first | exact Or.inl rfl | exact Or.inr rfl) ?_
        refine ⟨fun q => by omega, fun _ => ⟨rfl, ?_⟩⟩
        rw [if_neg (by omega)]
      · refine z_il1 eX12_pays_29 ?_
        refine z_goto eX12_pays_30 rfl ?_
        refine z_isubN eX12_pays_34 (by omega) (by omega) ?_
        refine z_pi eX12_pays_35 pX12_505 zs117 ?_
        refine z_al0 eX12_pays_38 ?_
        refine z_dup eX12_pays_39 zn2 ?_
        refine z_gi eX12_pays_40 fX12_508 zs117 ?_
        rw [zup_ne (by decide)]
        refine z_il1 eX12_pays_43 ?_
        refine z_iaddN eX12_pays_44 (by omega) (by omega) ?_
        refine z_pi eX12_pays_45 pX12_508 zs117 ?_
        refine z_al0 eX12_pays_48 ?_
        refine z_dup eX12_pays_49 zn2 ?_
        refine z_gi eX12_pays_50 fX12_511 zs117 ?_
        rw [zup_ne (by decide), zup_ne (by decide)]
        refine z_ki eX12_pays_53 ?_
        refine z_iaddN eX12_pays_54 (by omega) (by omega) ?_
        refine z_pi eX12_pays_55 pX12_511 zs117 ?_
        refine z_ki eX12_pays_58 ?_
        refine ze_z eX12_pays_59 rfl (by first | exact Or.inl rfl | exact Or.inr rfl) ?_
        refine ⟨fun q => by omega, fun _ => ⟨rfl, ?_⟩⟩
        rw [if_pos (by omega)]
    · refine z_ki eX12_pays_15 ?_
      refine ze_z eX12_pays_16 rfl (by first | exact Or.inl rfl | exact Or.inr rfl) ?_
      exact ⟨fun _ => ⟨rfl, rfl⟩, fun q => absurd ⟨by omega, by omega⟩ q⟩
/-- what a paid change writes -/
def pyM (g : zHp) (sp c : Int) : zHp := zup (zup (zup g 117 32 (g 117 32 - (if sp = 1 then c else 0))) 117 31 (g 117 31 + c)) 117 30 (g 117 30 + 1)
theorem r_paysS {h g : zHp} {S : aSt} {sp : Int} (Hm : mS h S g) (hsp : h 117 33 = sp) (hs01 : sp = 0 ∨ sp = 1) {n : Int} (G : cG n S) (hn : 0 ≤ n) (c : Int) (hc : 0 ≤ c ∧ c ≤ 99) : zCi mX12_pays 0 [zA 117, zI c] g (fun v h' => (sp = 1 ∧ S.pu < c → (0 : Int) = v ∧ g = h') ∧ (¬ (sp = 1 ∧ S.pu < c) → (1 : Int) = v ∧ pyM g sp c = h')) := by
  obtain ⟨-, -, ⟨-, -, m0, m1, m2⟩, -, m4⟩ := Hm
  obtain ⟨g1, g2, g3, g4, g5, g6⟩ := G
  have e33 : g 117 33 = sp := (m4 33 (by decide) (by decide)).trans hsp
  have q := r_pays g c hc (by omega) (by omega) (by omega) (by omega)
  rw [e33, m2] at q
  unfold pyM
  rw [m2]
  exact q
theorem mS_c1 {h g : zHp} {S : aSt} {sp k w : Int} (Hm : mS h S g) (ok : okC sp k w S) {f : zHp} (f122 : f 122 = uD k w.toNat S.D) (fo : ∀ a : Nat, ¬ a = 122 → f a = pyM g sp (csD k w.toNat S.D) a) : mS h (c1 sp k w S) f := by
  obtain ⟨⟨hb, hst⟩, m0, ⟨m1, m2, m3, m4, m5⟩, m6, m7⟩ := Hm
  have u := uD_dB hb hst ok.1 ok.2.1
  refine ⟨⟨u.1, ?_⟩, f122, ⟨?_, ?_, ?_, ?_, ?_⟩, fun a a1 a2 a3 a4 => ?_, fun i i1 i2 => ?_⟩
  · show uD k w.toNat S.D 2 < ((2 ^ nN (uD k w.toNat S.D) : Nat) : Int)
    rw [u.2.1]
    exact u.2.2
  · rw [fo 117 (by decide)]; unfold pyM; rw [zup_ne (by decide), zup_ne (by decide), zup_ne (by decide)]; exact m1
  · rw [fo 117 (by decide)]; unfold pyM; rw [zup_ne (by decide), zup_ne (by decide), zup_ne (by decide)]; exact m2
  · rw [fo 117 (by decide)]; unfold pyM; rw [zup_at, m3]; rfl
  · rw [fo 117 (by decide)]; unfold pyM; rw [zup_ne (by decide), zup_at, m4]; rfl
  · rw [fo 117 (by decide)]; unfold pyM; rw [zup_ne (by decide), zup_ne (by decide), zup_at, m5]; rfl
  · rw [fo a a2]; unfold pyM; rw [zup_off a1, zup_off a1, zup_off a1]; exact m6 a a1 a2 a3 a4
  · rw [fo 117 (by decide)]; unfold pyM; rw [zup_ne (by omega), zup_ne (by omega), zup_ne (by omega)]; exact m7 i i1 i2
