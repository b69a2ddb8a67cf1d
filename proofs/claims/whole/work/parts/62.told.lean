-- told, cost (written by wip/tools/specC2.py)
abbrev tSt : Type := Nat × (Nat → Int) × (Nat → Int) × Int
def fu (f : Nat → Int) (w : Nat) (y : Int) : Nat → Int := fun i => if i = w then y else f i
def tdS (D : Nat → Int) (x : Int) (S : tSt) : Option tSt :=
  if x % 4 < 2 then (if bv S.1 (x / 4).toNat = x % 4 then some (S.1 ^^^ 2 ^ (x / 4).toNat, S.2.1, S.2.2.1, S.2.2.2 + D (3 + (x / 4).toNat)) else none)
  else if x % 4 = 2 then (if S.2.2.1 (x / 4).toNat = 0 then none else some (S.1, fu S.2.1 (x / 4).toNat (S.2.1 (x / 4).toNat + 1), fu S.2.2.1 (x / 4).toNat (S.2.2.1 (x / 4).toNat - 1), S.2.2.2 + D (60 + (x / 4).toNat)))
  else (if S.2.1 (x / 4).toNat = 0 then none else some (S.1, fu S.2.1 (x / 4).toNat (S.2.1 (x / 4).toNat + -1), fu S.2.2.1 (x / 4).toNat (S.2.2.1 (x / 4).toNat - -1), S.2.2.2 + D (60 + (x / 4).toNat)))
def tdF (D : Nat → Int) (xs : Nat → Int) : Nat → Option tSt
  | 0 => some ((D 2).toNat, inOf D, (fun s => D (40 + s)), 0)
  | n + 1 => (tdF D xs n).bind (tdS D (xs n))
def okB (D : Nat → Int) (x : Int) : Bool := decide (0 ≤ x ∧ x / 4 < (if x % 4 < 2 then D 0 else D 1))
def okN (D : Nat → Int) (xs : Nat → Int) : Nat → Bool
  | 0 => true
  | n + 1 => okN D xs n && okB D (xs n)
theorem okN_all {D xs : Nat → Int} : ∀ {n : Nat}, okN D xs n = true → ∀ k, k < n → okB D (xs k) = true := by
  intro n
  induction n with
  | zero => intro _ k hk; omega
  | succ n ih =>
    intro h k hk
    rw [okN, Bool.and_eq_true] at h
    by_cases e : k = n
    · subst e; exact h.2
    · exact ih h.1 k (by omega)
theorem okN_no {D xs : Nat → Int} {n k : Nat} (hk : k < n) (h : ¬ okB D (xs k) = true) : ¬ okN D xs n = true := fun q => h (okN_all q k hk)
theorem okB_ok {D : Nat → Int} {x : Int} (hb : dB D) (h : okB D x = true) : 0 ≤ x ∧ 0 ≤ x / 4 ∧ x / 4 < 20 ∧ (x % 4 < 2 → x / 4 < nN D ∧ x / 4 < 8) ∧ (¬ x % 4 < 2 → x / 4 < nS D) := by
  have := nN_eq hb
  have := nS_eq hb
  have := nN_le hb
  have := nS_le hb
  have q := of_decide_eq_true h
  split at q <;> omega
def tG (D : Nat → Int) (n : Nat) (S : tSt) : Prop := S.1 < 2 ^ nN D ∧ (∀ s : Nat, s < nS D → 0 ≤ S.2.1 s ∧ 0 ≤ S.2.2.1 s ∧ S.2.1 s + S.2.2.1 s ≤ 198) ∧ 0 ≤ S.2.2.2 ∧ S.2.2.2 ≤ 99 * n
theorem tdS_G {D : Nat → Int} (hb : dB D) {x : Int} (ok : okB D x = true) {n : Nat} {S S' : tSt} (G : tG D n S) (h : tdS D x S = some S') : tG D (n + 1) S' := by
  obtain ⟨g1, g2, g3, g4⟩ := G
  obtain ⟨o1, o2, o3, o4, o5⟩ := okB_ok hb ok
  have hc1 : x % 4 < 2 → 0 ≤ D (3 + (x / 4).toNat) ∧ D (3 + (x / 4).toNat) ≤ 99 := fun q => by
    have := hb.2.2.2.2.2.1 (x / 4).toNat (by have := o4 q; omega)
    omega
  have hc2 : ¬ x % 4 < 2 → 0 ≤ D (60 + (x / 4).toNat) ∧ D (60 + (x / 4).toNat) ≤ 99 := fun q => by
    have := hb.2.2.2.2.1 (x / 4).toNat (by have := o5 q; omega)
    omega
  unfold tdS at h
  split at h
  · next q =>
    split at h
    · cases h
      have := hc1 q
      exact ⟨Nat.xor_lt_two_pow g1 (Nat.pow_lt_pow_right (by omega) (by have := o4 q; omega)), g2, by show 0 ≤ S.2.2.2 + _; omega, by show S.2.2.2 + _ ≤ 99 * ((n + 1 : Nat) : Int); omega⟩
    · cases h
  · next q =>
    have c2 := hc2 q
    split at h
    · split at h
      · cases h
      · next e =>
        cases h
        refine ⟨g1, fun s hs => ?_, by show 0 ≤ S.2.2.2 + _; omega, by show S.2.2.2 + _ ≤ 99 * ((n + 1 : Nat) : Int); omega⟩
        have := g2 s hs
        show 0 ≤ fu _ _ _ s ∧ 0 ≤ fu _ _ _ s ∧ fu _ _ _ s + fu _ _ _ s ≤ 198
        unfold fu
        by_cases z : s = (x / 4).toNat
        · rw [if_pos z, if_pos z, ← z]; rw [← z] at e; omega
        · rw [if_neg z, if_neg z]; exact this
    · split at h
      · cases h
      · next e =>
        cases h
        refine ⟨g1, fun s hs => ?_, by show 0 ≤ S.2.2.2 + _; omega, by show S.2.2.2 + _ ≤ 99 * ((n + 1 : Nat) : Int); omega⟩
        have := g2 s hs
        show 0 ≤ fu _ _ _ s ∧ 0 ≤ fu _ _ _ s ∧ fu _ _ _ s + fu _ _ _ s ≤ 198
        unfold fu
        by_cases z : s = (x / 4).toNat
        · rw [if_pos z, if_pos z, ← z]; rw [← z] at e; omega
        · rw [if_neg z, if_neg z]; exact this
theorem tdF_0 {D : Nat → Int} (hb : dB D) (hst : D 2 < ((2 ^ nN D : Nat) : Int)) : tG D 0 ((D 2).toNat, inOf D, (fun s => D (40 + s)), 0) := ⟨stL hb hst, fun s hs => by
  have := hb.2.2.2.2.1 s hs
  exact ⟨this.1, this.2.1, this.2.2.1⟩, by show (0 : Int) ≤ 0; omega, by show (0 : Int) ≤ 99 * ((0 : Nat) : Int); omega⟩
theorem tdF_none {D xs : Nat → Int} {k : Nat} (h : tdF D xs k = none) : ∀ n, k ≤ n → tdF D xs n = none := by
  intro n
  induction n with
  | zero => intro hk; rw [show (0 : Nat) = k by omega]; exact h
  | succ n ih =>
    intro hk
    by_cases e : k = n + 1
    · rw [← e]; exact h
    · rw [tdF, ih (by omega)]; rfl
theorem tdF_s {D xs : Nat → Int} {k : Nat} {S : tSt} (h : tdF D xs k = some S) : tdF D xs (k + 1) = tdS D (xs k) S := by rw [tdF, h]; rfl
def nums (h : zHp) (t : Nat) : Nat → Int := fun k => h 120 (60 * t + k)
def cWhy (h : zHp) (D : Nat → Int) (t n : Int) : Int := if 0 ≤ t ∧ t < 4 then (if h 119 t.toNat < 0 then 3 else if 0 ≤ n ∧ n ≤ 20 then (if h 119 t.toNat < n then 4 else if okN D (nums h t.toNat) n.toNat = true then 0 else 5) else 5) else 1
theorem cWhy_ok {h : zHp} {D : Nat → Int} {t n : Int} (q : cWhy h D t n = 0) : (0 ≤ t ∧ t < 4) ∧ 0 ≤ h 119 t.toNat ∧ (0 ≤ n ∧ n ≤ 20) ∧ n ≤ h 119 t.toNat ∧ okN D (nums h t.toNat) n.toNat = true := by
  unfold cWhy at q
  split at q
  · next z =>
    split at q
    · omega
    · split at q
      · split at q
        · omega
        · split at q
          · next z5 => exact ⟨z, by omega, by omega, by omega, z5⟩
          · omega
      · omega
  · omega
theorem cWhy_nn (h : zHp) (D : Nat → Int) (t n : Int) : 0 ≤ cWhy h D t n := by
  unfold cWhy
  repeat (first | omega | split)
def qTold (h : zHp) (D : Nat → Int) (t n : Int) : Int × Int := if cWhy h D t n = 0 then (match tdF D (nums h t.toNat) n.toNat with
  | none => (-1, 9)
  | some S => if winW D S.2.1 S.1 < 0 then (-1, 8) else (winW D S.2.1 S.1, 0)) else (-1, cWhy h D t n)
def qCost (h : zHp) (D : Nat → Int) (t n : Int) : Int × Int := if cWhy h D t n = 0 then (match tdF D (nums h t.toNat) n.toNat with
  | none => (-1, 9)
  | some S => (S.2.2.2, 0)) else (-1, cWhy h D t n)
/-- the spare hall (cells 14 to 23) stands so -/
def spR (g : zHp) (D : Nat → Int) (S : tSt) : Prop := g 14 0 = D 0 ∧ g 14 7 = D 1 ∧ g 14 1 = (S.1 : Int) ∧ (∀ k : Nat, k < nN D → g 16 k = D (3 + k)) ∧ (∀ s : Nat, s < nS D → g 19 s = S.2.1 s ∧ g 20 s = S.2.2.1 s ∧ g 21 s = D (60 + s))
def fr14 (h g : zHp) : Prop := ∀ c : Nat, ¬ (14 ≤ c ∧ c ≤ 23) → g c = h c
theorem fr14.xf {h g : zHp} (F : fr14 h g) : zXf h g := by
  refine ⟨zEx.blk zEx.rf 14 23 F (fun c i c1 c2 => Or.inl ?_), fun a ha => F a (by omega), by rw [F 0 (by omega)]⟩
  have : c = 14 ∨ c = 15 ∨ c = 16 ∨ c = 17 ∨ c = 18 ∨ c = 19 ∨ c = 20 ∨ c = 21 ∨ c = 22 ∨ c = 23 := by omega
  rcases this with rfl | rfl | rfl | rfl | rfl | rfl | rfl | rfl | rfl | rfl <;> rfl
theorem spR_bd {g : zHp} {D : Nat → Int} {S : tSt} {n : Nat} (hb : dB D) (R : spR g D S) (G : tG D n S) : bdX g 14 := by
  obtain ⟨r0, r7, r1, r2, r3⟩ := R
  have h0 := hb.1
  have h1 := hb.2.1
  have hS := nS_eq hb
  have h256 := p2_256 hb G.1
  refine ⟨by omega, by omega, by omega, fun s hs => ?_⟩
  have q := r3 s (by omega)
  have q2 := G.2.1 s (by omega)
  rw [show g (14 + 5) s = S.2.1 s from q.1, show g (14 + 6) s = S.2.2.1 s from q.2.1]
  exact q2
theorem ch_td {g g2 : zHp} {D : Nat → Int} {S : tSt} {x : Int} (hb : dB D) (R : spR g D S) (ok : okB D x = true) : (chX g 14 (x % 4) (x / 4).toNat = none → tdS D x S = none) ∧ (chX g 14 (x % 4) (x / 4).toNat = some g2 → ∃ S' : tSt, tdS D x S = some S' ∧ spR g2 D S' ∧ S'.2.2.2 = S.2.2.2 + (if x % 4 < 2 then D (3 + (x / 4).toNat) else D (60 + (x / 4).toNat)) ∧ fr14 g g2) := by
  obtain ⟨r0, r7, r1, r2, r3⟩ := R
  obtain ⟨o1, o2, o3, o4, o5⟩ := okB_ok hb ok
  have e1 : (g 14 1).toNat = S.1 := by omega
  unfold chX tdS
  rw [e1]
  by_cases q : x % 4 < 2
  · rw [if_pos q, if_pos q]
    by_cases z : bv S.1 (x / 4).toNat = x % 4
    · rw [if_pos z, if_pos z]
      refine ⟨fun h => (by cases h), fun h => ?_⟩
      cases h
      refine ⟨_, rfl, ⟨by rw [zup_ne (by decide)]; exact r0, by rw [zup_ne (by decide)]; exact r7, zup_at _ _ _ _, fun k hk => by rw [zup_off (by decide)]; exact r2 k hk, fun s hs => by rw [zup_off (by decide), zup_off (by decide), zup_off (by decide)]; exact r3 s hs⟩, by rw [if_pos q], fun c hc => zup_off (by omega)⟩
    · rw [if_neg z, if_neg z]
      exact ⟨fun _ => rfl, fun h => (by cases h)⟩
  · have q3 := r3 (x / 4).toNat (by have := o5 q; omega)
    rw [if_neg q, if_neg q]
    have fin : ∀ a b : Int, spR (zup (zup g (14 + 5) (x / 4).toNat a) (14 + 6) (x / 4).toNat b) D (S.1, fu S.2.1 (x / 4).toNat a, fu S.2.2.1 (x / 4).toNat b, S.2.2.2 + D (60 + (x / 4).toNat)) := by
      intro a b
      refine ⟨by rw [zup_off (by decide), zup_off (by decide)]; exact r0, by rw [zup_off (by decide), zup_off (by decide)]; exact r7, by rw [zup_off (by decide), zup_off (by decide)]; exact r1, fun k hk => by rw [zup_off (by decide), zup_off (by decide)]; exact r2 k hk, fun s hs => ?_⟩
      have q4 := r3 s hs
      rw [zup_off (show ¬ 19 = 14 + 6 by decide), show zup (zup g (14 + 5) (x / 4).toNat a) (14 + 6) (x / 4).toNat b 21 = g 21 by rw [zup_off (by decide), zup_off (by decide)]]
      by_cases z : s = (x / 4).toNat
      · rw [← z]
        refine ⟨?_, ?_, q4.2.2⟩
        · rw [show (19 : Nat) = 14 + 5 from rfl, zup_at]; exact (if_pos rfl).symm
        · rw [show (20 : Nat) = 14 + 6 from rfl, zup_at]; exact (if_pos rfl).symm
      · refine ⟨?_, ?_, q4.2.2⟩
        · rw [zup_ne (by omega)]; exact q4.1.trans (if_neg z).symm
        · rw [zup_ne (by omega), zup_off (by decide)]; exact q4.2.1.trans (if_neg z).symm
    by_cases k2 : x % 4 = 2
    · rw [if_pos k2, if_pos k2, show g (14 + 6) (x / 4).toNat = S.2.2.1 (x / 4).toNat from q3.2.1, show g (14 + 5) (x / 4).toNat = S.2.1 (x / 4).toNat from q3.1]
      by_cases z : S.2.2.1 (x / 4).toNat = 0
      · rw [if_pos z, if_pos z]
        exact ⟨fun _ => rfl, fun h => (by cases h)⟩
      · rw [if_neg z, if_neg z]
        refine ⟨fun h => (by cases h), fun h => ?_⟩
        cases h
        exact ⟨_, rfl, fin _ _, by rw [if_neg q], fun c hc => by rw [zup_off (by omega), zup_off (by omega)]⟩
    · rw [if_neg k2, if_neg k2, show g (14 + 6) (x / 4).toNat = S.2.2.1 (x / 4).toNat from q3.2.1, show g (14 + 5) (x / 4).toNat = S.2.1 (x / 4).toNat from q3.1]
      by_cases z : S.2.1 (x / 4).toNat = 0
      · rw [if_pos z, if_pos z]
        exact ⟨fun _ => rfl, fun h => (by cases h)⟩
      · rw [if_neg z, if_neg z]
        refine ⟨fun h => (by cases h), fun h => ?_⟩
        cases h
        exact ⟨_, rfl, fin _ _, by rw [if_neg q], fun c hc => by rw [zup_off (by omega), zup_off (by omega)]⟩
theorem x_isChange (h : zHp) (H : rHR h) (x : Int) (hx : z64 x) : zCi mX5_isChange 0 [zA 4, zJ x] h (fun v h' => (if okB (h 122) x = true then 1 else 0) = v ∧ h = h') := by
  refine z_enter [zA 4, zJ x, zU, zU, zU] (by decide +kernel) (Nat.le_of_ble_eq_true rfl) rfl (fun hra hrg => ?_)
  obtain ⟨⟨hb, hst, e0, e1, e7, ek, es, eo, hp⟩, hru⟩ := id H
  have hN := nN_eq hb
  have hS := nS_eq hb
  have hN8 := nN_le hb
  have hS20 := nS_le hb
  have hb2 := hb.2.2.1
  refine z_ll1 eX5_isChange_0 ?_
  refine z_ki eX5_isChange_1 ?_
  refine z_lshr eX5_isChange_2 ?_
  rw [zlshr2 hx]
  refine z_ls3 eX5_isChange_3 zn9 ?_
  refine z_ll3 eX5_isChange_4 ?_
  refine z_kj eX5_isChange_5 ?_
  refine z_lcmp eX5_isChange_6 ?_
  refine z_ilt eX5_isChange_7 rfl (fun c7 => ?_) (fun c7 => ?_)
  · rw [zcmp_lt] at c7
    refine z_ki eX5_isChange_43 ?_
    refine ze_z eX5_isChange_44 rfl (by first | exact Or.inl rfl | exact Or.inr rfl) ?_
    refine ⟨?_, rfl⟩
    unfold okB
    rw [if_neg]
    intro z
    have z := of_decide_eq_true z
    split at z <;> omega
  · rw [zcmp_lt] at c7
    refine z_ll3 eX5_isChange_10 ?_
    refine z_ll1 eX5_isChange_11 ?_
    refine z_kj eX5_isChange_12 ?_
    refine z_land eX5_isChange_15 ?_
    rw [zland3]
    refine z_kj eX5_isChange_16 ?_
    refine z_lcmp eX5_isChange_19 ?_
    refine z_ige eX5_isChange_20 rfl (fun c20 => ?_) (fun c20 => ?_)
    · rw [zcmp_ge] at c20
      refine z_al0 eX5_isChange_30 ?_
      refine z_gi eX5_isChange_31 fX5_51 zs4 ?_
      refine z_i2l eX5_isChange_34 ?_
      refine z_lcmp eX5_isChange_35 ?_
      refine z_ige eX5_isChange_36 rfl (fun c36 => ?_) (fun c36 => ?_)
      · rw [zcmp_ge] at c36
        refine z_ki eX5_isChange_43 ?_
        refine ze_z eX5_isChange_44 rfl (by first | exact Or.inl rfl | exact Or.inr rfl) ?_
        refine ⟨?_, rfl⟩
        unfold okB
        rw [if_neg]
        intro z
        have z := of_decide_eq_true z
        split at z <;> omega
      · rw [zcmp_ge] at c36
        refine z_ki eX5_isChange_39 ?_
        refine z_goto eX5_isChange_40 rfl ?_
        refine ze_z eX5_isChange_44 rfl (by first | exact Or.inl rfl | exact Or.inr rfl) ?_
        refine ⟨?_, rfl⟩
        unfold okB
        rw [if_pos]
        apply decide_eq_true
        split <;> omega
    · rw [zcmp_ge] at c20
      refine z_al0 eX5_isChange_23 ?_
      refine z_gi eX5_isChange_24 fX5_40 zs4 ?_
      refine z_goto eX5_isChange_27 rfl ?_
      refine z_i2l eX5_isChange_34 ?_
      refine z_lcmp eX5_isChange_35 ?_
      refine z_ige eX5_isChange_36 rfl (fun c36 => ?_) (fun c36 => ?_)
      · rw [zcmp_ge] at c36
        refine z_ki eX5_isChange_43 ?_
        refine ze_z eX5_isChange_44 rfl (by first | exact Or.inl rfl | exact Or.inr rfl) ?_
        refine ⟨?_, rfl⟩
        unfold okB
        rw [if_neg]
        intro z
        have z := of_decide_eq_true z
        split at z <;> omega
      · rw [zcmp_ge] at c36
        refine z_ki eX5_isChange_39 ?_
        refine z_goto eX5_isChange_40 rfl ?_
        refine ze_z eX5_isChange_44 rfl (by first | exact Or.inl rfl | exact Or.inr rfl) ?_
        refine ⟨?_, rfl⟩
        unfold okB
        rw [if_pos]
        apply decide_eq_true
        split <;> omega
theorem x_whyT_l (h : zHp) (H : rHR h) (t : Nat) (ht : t < 4) (n : Nat) (hn : n ≤ 20) (hnn : (n : Int) ≤ h 119 t) (h60 : h 119 t ≤ 60) (hce : ∀ i : Nat, (i : Int) < h 119 t → h (68 + 2 * t) i = h 120 (60 * t + i)) : ∀ (r k : Nat), k + r = n → okN (h 122) (nums h t) k = true → zRW mX11_whyNotTold 1 (0, 0) 53 [zA 0, zI t, zI n, zI k] [] 143 h (zqi (fun v h' => (if okN (h 122) (nums h t) n = true then 0 else 5) = v ∧ h = h')) := by
  intro r
  induction r using Nat.strongRecOn with
  | ind r ih =>
    intro k hk hok
    refine z_il3 eX11_whyNotTold_53 ?_
    refine z_il2 eX11_whyNotTold_54 ?_
    refine z_cge eX11_whyNotTold_55 rfl (fun c55 => ?_) (fun c55 => ?_)
    · refine z_ki eX11_whyNotTold_87 ?_
      refine ze_i eX11_whyNotTold_88 rfl ?_
      have e : k = n := by omega
      subst e
      exact ⟨if_pos hok, rfl⟩
    · refine z_al0 eX11_whyNotTold_58 ?_
      refine z_ga eX11_whyNotTold_59 fX11_25 zs0 (t := 4) rfl ?_
      refine z_al0 eX11_whyNotTold_62 ?_
      refine z_ga eX11_whyNotTold_63 fX11_11 zs0 (t := 1) rfl ?_
      refine z_il1 eX11_whyNotTold_66 ?_
      refine zr_aN eX11_whyNotTold_67 zs1 (Or.inl rfl) (j := t) (by omega) (by omega) (t := (67 + 2 * t)) (zTr1 ht) ?_
      refine z_ga eX11_whyNotTold_68 fX11_157 (zTr2 ht) (t := (68 + 2 * t)) (zTr3 ht) ?_
      refine z_il3 eX11_whyNotTold_71 ?_
      refine zr_lN eX11_whyNotTold_72 (zTr4 ht) (j := k) (by omega) (by omega) ?_
      have e72 : h (68 + 2 * t) k = nums h t k := hce k (by omega)
      refine z_rg (fun hrg _ _ => ?_)
      have hx64 : z64 (nums h t k) := by
        have q := hrg (68 + 2 * t) k 21 60 (by have := zsh_lt (zTr4 ht); omega) (zTr4 ht) (by omega)
        rw [e72] at q
        exact q
      rw [e72]
      refine zc_vi1 eX11_whyNotTold_73 lX11_271 tX5_isChange zs4 (by decide) (Nat.le_of_ble_eq_true rfl) (x_isChange h H _ hx64) ?_
      rintro _ _ ⟨rfl, rfl⟩ -
      refine z_ine eX11_whyNotTold_76 rfl (fun c76 => ?_) (fun c76 => ?_)
      · have z76 := iteT c76
        refine z_incN3 eX11_whyNotTold_81 zn0 (by omega) (by omega) ?_
        refine z_goto eX11_whyNotTold_84 rfl ?_
        exact ih (r - 1) (by omega) (k + 1) (by omega) (by rw [okN, hok, z76]; rfl)
      · have z76 := iteF c76
        refine z_ki eX11_whyNotTold_79 ?_
        refine ze_i eX11_whyNotTold_80 rfl ?_
        exact ⟨if_neg (okN_no (show k < n by omega) z76), rfl⟩
theorem x_whyT (h : zHp) (H : rHR h) (HT : rTray h) (t n : Int) : zCi mX11_whyNotTold 1 [zA 0, zI t, zI n] h (fun v h' => cWhy h (h 122) t n = v ∧ h = h') := by
  refine z_enter [zA 0, zI t, zI n, zU] (by decide +kernel) (Nat.le_of_ble_eq_true rfl) rfl (fun hra hrg => ?_)
  refine z_il1 eX11_whyNotTold_0 ?_
  refine zc_si1 eX11_whyNotTold_1 lX11_130 tX11_isTray (by decide) (Nat.le_of_ble_eq_true rfl) (x_isTray _ _) ?_
  rintro _ _ ⟨rfl, rfl⟩ -
  refine z_ine eX11_whyNotTold_4 rfl (fun c4 => ?_) (fun c4 => ?_)
  · have z4 := iteT c4
    obtain ⟨t, rfl⟩ := Int.eq_ofNat_of_zero_le (show 0 ≤ t by omega)
    have ht : t < 4 := by omega
    have HT := HT t ht
    have hn0 := HT.1
    have h1 := HT.2.2.1
    refine z_al0 eX11_whyNotTold_9 ?_
    refine z_ga eX11_whyNotTold_10 fX11_11 zs0 (t := 1) rfl ?_
    refine z_il1 eX11_whyNotTold_13 ?_
    refine zr_aN eX11_whyNotTold_14 zs1 (Or.inl rfl) (j := t) (by omega) (by omega) (t := (67 + 2 * t)) (zTr1 ht) ?_
    refine z_gi eX11_whyNotTold_15 fX11_161 (zTr2 ht) ?_
    refine z_ine eX11_whyNotTold_18 rfl (fun c18 => ?_) (fun c18 => ?_)
    · have hnn : 0 ≤ h 119 t := by
        by_cases z : 0 ≤ h 119 t
        · exact z
        · rw [if_neg z] at h1
          exact absurd h1 c18
      obtain ⟨T1, T2, T3⟩ := HT.2.2.2 hnn
      refine z_il2 eX11_whyNotTold_23 ?_
      refine z_ilt eX11_whyNotTold_24 rfl (fun c24 => ?_) (fun c24 => ?_)
      · refine z_ki eX11_whyNotTold_33 ?_
        refine ze_i eX11_whyNotTold_34 rfl ?_
        exact ⟨by unfold cWhy; rw [Int.toNat_natCast, if_pos (by omega), if_neg (by omega), if_neg (by omega)], rfl⟩
      · refine z_il2 eX11_whyNotTold_27 ?_
        refine z_ki eX11_whyNotTold_28 ?_
        refine z_cle eX11_whyNotTold_30 rfl (fun c30 => ?_) (fun c30 => ?_)
        · refine z_al0 eX11_whyNotTold_35 ?_
          refine z_ga eX11_whyNotTold_36 fX11_11 zs0 (t := 1) rfl ?_
          refine z_il1 eX11_whyNotTold_39 ?_
          refine zr_aN eX11_whyNotTold_40 zs1 (Or.inl rfl) (j := t) (by omega) (by omega) (t := (67 + 2 * t)) (zTr1 ht) ?_
          refine z_ki eX11_whyNotTold_41 ?_
          refine z_il2 eX11_whyNotTold_42 ?_
          refine zc_vi2 eX11_whyNotTold_43 lX11_168 tX10_has (zTr2 ht) (by decide) (Nat.le_of_ble_eq_true rfl) (x_has _ t ht (by omega) _ _) ?_
          rintro _ _ ⟨rfl, rfl⟩ -
          refine z_ine eX11_whyNotTold_46 rfl (fun c46 => ?_) (fun c46 => ?_)
          · have z46 := iteT c46
            refine z_ki eX11_whyNotTold_51 ?_
            refine z_is3 eX11_whyNotTold_52 zn0 ?_
            obtain ⟨n, rfl⟩ := Int.eq_ofNat_of_zero_le (show 0 ≤ n by omega)
            rw [show cWhy h (h 122) t n = (if okN (h 122) (nums h t) n = true then 0 else 5) by unfold cWhy; rw [Int.toNat_natCast, Int.toNat_natCast, if_pos (by omega), if_neg (by omega), if_pos (by omega), if_neg (by omega)]]
            exact x_whyT_l h H t ht n (by omega) (by omega) (by omega) T3 n 0 (Nat.zero_add _) rfl
          · have z46 := iteF c46
            refine z_ki eX11_whyNotTold_49 ?_
            refine ze_i eX11_whyNotTold_50 rfl ?_
            exact ⟨by unfold cWhy; rw [Int.toNat_natCast, if_pos (by omega), if_neg (by omega), if_pos (by omega), if_pos (by omega)], rfl⟩
        · refine z_ki eX11_whyNotTold_33 ?_
          refine ze_i eX11_whyNotTold_34 rfl ?_
          exact ⟨by unfold cWhy; rw [Int.toNat_natCast, if_pos (by omega), if_neg (by omega), if_neg (by omega)], rfl⟩
    · refine z_ki eX11_whyNotTold_21 ?_
      refine ze_i eX11_whyNotTold_22 rfl ?_
      have hnn : h 119 t < 0 := by
        by_cases z : 0 ≤ h 119 t
        · rw [if_pos z] at h1; omega
        · omega
      exact ⟨by unfold cWhy; rw [Int.toNat_natCast, if_pos (by omega), if_pos hnn], rfl⟩
  · have z4 := iteF c4
    refine z_ki eX11_whyNotTold_7 ?_
    refine ze_i eX11_whyNotTold_8 rfl ?_
    exact ⟨by unfold cWhy; rw [if_neg z4], rfl⟩
theorem x_chSp_l (h : zHp) (D : Nat → Int) (hb : dB D) (t : Nat) (ht : t < 4) (n : Nat) (hn : n ≤ 20) (hsz : h (67 + 2 * t) 2 = h 119 t) (hnn : (n : Int) ≤ h 119 t) (hce : ∀ i : Nat, (i : Int) < h 119 t → h (68 + 2 * t) i = h 120 (60 * t + i)) (hok : okN D (nums h t) n = true) : ∀ (r k : Nat) (g : zHp) (S : tSt), k + r = n → tdF D (nums h t) k = some S → tG D k S → spR g D S → fr14 h g → zRW mX11_changeSpare 3 (0, 0) 16 [zA 0, zA (67 + 2 * t), zI n, zI S.2.2.2, zI k, zU, zU] [] 143 g (zqi (fun v h' => (∀ S : tSt, tdF D (nums h t) n = some S → S.2.2.2 = v ∧ spR h' D S ∧ tG D n S) ∧ (tdF D (nums h t) n = none → (-1 : Int) = v) ∧ fr14 h h')) := by
  intro r
  induction r using Nat.strongRecOn with
  | ind r ih =>
    intro k g S hk htd hG hR hfr
    refine z_il4 eX11_changeSpare_16 ?_
    refine z_il2 eX11_changeSpare_18 ?_
    refine z_cge eX11_changeSpare_19 rfl (fun c19 => ?_) (fun c19 => ?_)
    · refine z_il3 eX11_changeSpare_93 ?_
      refine ze_i eX11_changeSpare_94 rfl ?_
      have e : k = n := by omega
      subst e
      refine ⟨fun S3 h3 => ?_, fun q => ?_, hfr⟩
      · rw [htd] at h3; cases h3; exact ⟨rfl, hR, hG⟩
      · rw [htd] at q; cases q
    · refine z_il4 eX11_changeSpare_22 ?_
      refine z_al1 eX11_changeSpare_24 ?_
      refine z_gi eX11_changeSpare_25 fX11_275 (zTr2 ht) ?_
      rw [hfr (67 + 2 * t) (by omega), hsz]
      refine z_cge eX11_changeSpare_28 rfl (fun c28 => ?_) (fun c28 => ?_)
      · refine z_il3 eX11_changeSpare_93 ?_
        refine ze_i eX11_changeSpare_94 rfl ?_
        have e : k = n := by omega
        subst e
        refine ⟨fun S3 h3 => ?_, fun q => ?_, hfr⟩
        · rw [htd] at h3; cases h3; exact ⟨rfl, hR, hG⟩
        · rw [htd] at q; cases q
      · have ex : h (68 + 2 * t) k = nums h t k := hce k (by omega)
        have h60 := zsh_lt (zTr4 ht)
        have okk := okN_all hok k (by omega)
        obtain ⟨o1, o2, o3, o4, o5⟩ := okB_ok hb okk
        refine z_rg (fun hrg _ _ => ?_)
        have hx64 : z64 (nums h t k) := by
          have q := hrg (68 + 2 * t) k 21 60 (by omega) (zTr4 ht) (by omega)
          rw [hfr (68 + 2 * t) (by omega), ex] at q
          exact q
        refine z_al1 eX11_changeSpare_31 ?_
        refine z_ga eX11_changeSpare_32 fX11_157 (zTr2 ht) (t := (68 + 2 * t)) (zTr3 ht) ?_
        refine z_il4 eX11_changeSpare_35 ?_
        refine zr_lN eX11_changeSpare_37 (zTr4 ht) (j := k) (by omega) (by omega) ?_
        rw [hfr (68 + 2 * t) (by omega), ex]
        refine z_kj eX11_changeSpare_38 ?_
        refine z_land eX11_changeSpare_41 ?_
        rw [zland3]
        refine z_l2i eX11_changeSpare_42 ?_
        rw [zl2i_i (by unfold z32; omega)]
        refine z_is5 eX11_changeSpare_43 zn0 ?_
        refine z_al1 eX11_changeSpare_45 ?_
        refine z_ga eX11_changeSpare_46 fX11_157 (zTr2 ht) (t := (68 + 2 * t)) (zTr3 ht) ?_
        refine z_il4 eX11_changeSpare_49 ?_
        refine zr_lN eX11_changeSpare_51 (zTr4 ht) (j := k) (by omega) (by omega) ?_
        rw [hfr (68 + 2 * t) (by omega), ex]
        refine z_ki eX11_changeSpare_52 ?_
        refine z_lshr eX11_changeSpare_53 ?_
        rw [zlshr2 hx64]
        refine z_l2i eX11_changeSpare_54 ?_
        rw [zl2i_i (by unfold z32; omega)]
        refine z_is6 eX11_changeSpare_55 zn0 ?_
        refine z_al0 eX11_changeSpare_57 ?_
        refine z_ga eX11_changeSpare_58 fX11_29 zs0 (t := 14) rfl ?_
        refine z_il5 eX11_changeSpare_61 ?_
        refine z_il6 eX11_changeSpare_63 ?_
        refine zc_vi2 eX11_changeSpare_65 lX11_278 tX5_change zs14 (by decide) (Nat.le_of_ble_eq_true rfl) (x_change g 14 (Or.inr (Or.inl rfl)) (spR_bd hb hR hG) _ _ (by omega)) ?_
        rintro y g2 ⟨-, u⟩ -
        have hth : thX g 14 (nums h t k % 4) (nums h t k / 4) := by
          obtain ⟨r0, r7, -⟩ := hR
          unfold thX
          have := of_decide_eq_true okk
          refine ⟨o2, ?_⟩
          rw [r0, r7]
          exact this.2
        obtain ⟨u1, u2⟩ := u hth
        have hcs : (y = 0 ∧ chX g 14 (nums h t k % 4) (nums h t k / 4).toNat = none ∧ g2 = g) ∨ (y = 1 ∧ chX g 14 (nums h t k % 4) (nums h t k / 4).toNat = some g2) := by
          cases hc : chX g 14 (nums h t k % 4) (nums h t k / 4).toNat with
          | none => exact Or.inl ⟨(u2 hc).1.symm, rfl, (u2 hc).2.symm⟩
          | some g3 => have q := u1 g3 hc; exact Or.inr ⟨q.1.symm, by rw [q.2]⟩
        refine z_ine eX11_changeSpare_68 rfl (fun c68 => ?_) (fun c68 => ?_)
        · have hsome : chX g 14 (nums h t k % 4) (nums h t k / 4).toNat = some g2 := by
            rcases hcs with q | q
            · omega
            · exact q.2
          obtain ⟨S2, s1, s2, s3, s4⟩ := (ch_td (g2 := g2) hb hR okk).2 hsome
          have hG2 := tdS_G hb okk hG s1
          refine z_il3 eX11_changeSpare_73 ?_
          refine z_al0 eX11_changeSpare_74 ?_
          refine z_ga eX11_changeSpare_75 fX11_29 zs0 (t := 14) rfl ?_
          refine z_il5 eX11_changeSpare_78 ?_
          refine z_il6 eX11_changeSpare_80 ?_
          refine zc_vi2 eX11_changeSpare_82 lX11_281 tX5_costOf zs14 (by decide) (Nat.le_of_ble_eq_true rfl) (x_costOf g2 14 (Or.inr (Or.inl rfl)) (spR_bd hb s2 hG2) _ _ (by omega)) ?_
          rintro y3 _ ⟨v1, -, rfl⟩ -
          have hcost : (if nums h t k % 4 < 2 then D (3 + (nums h t k / 4).toNat) else D (60 + (nums h t k / 4).toNat)) = y3 := by
            obtain ⟨r0, r7, r1, r2, r3⟩ := s2
            rw [← v1 (by unfold thX; have := of_decide_eq_true okk; rw [r0, r7]; exact ⟨o2, this.2⟩)]
            by_cases q : nums h t k % 4 < 2
            · rw [if_pos q, if_pos q]; exact (r2 _ (by have := o4 q; omega)).symm
            · rw [if_neg q, if_neg q]; exact (r3 _ (by have := o5 q; omega)).2.2.symm
          have hp1 := hG2.2.2
          rw [s3] at hp1
          rw [← hcost]
          refine z_iaddN eX11_changeSpare_85 (by omega) (by omega) ?_
          refine z_is3 eX11_changeSpare_86 zn0 ?_
          refine z_incN4 eX11_changeSpare_87 zn0 (by omega) (by omega) ?_
          refine z_goto eX11_changeSpare_90 rfl ?_
          refine z_fg5 ?_
          refine z_fg6 ?_
          rw [← s3]
          exact ih (r - 1) (by omega) (k + 1) g2 S2 (by omega) (by rw [tdF_s htd]; exact s1) hG2 s2 (fun c hc => (s4 c hc).trans (hfr c hc))
        · have hnone : chX g 14 (nums h t k % 4) (nums h t k / 4).toNat = none := by
            rcases hcs with q | q
            · exact q.2.1
            · omega
          have hnn2 := tdF_none (k := k + 1) (by rw [tdF_s htd]; exact (ch_td (g2 := g) hb hR okk).1 hnone) n (by omega)
          refine z_ki eX11_changeSpare_71 ?_
          refine ze_i eX11_changeSpare_72 rfl ?_
          refine ⟨fun S3 h3 => ?_, fun _ => rfl, ?_⟩
          · rw [hnn2] at h3; cases h3
          · rcases hcs with q | q
            · rw [q.2.2]; exact hfr
            · omega
theorem x_chSp (h : zHp) (H : rHR h) (t : Nat) (ht : t < 4) (n : Nat) (hn : n ≤ 20) (hsz : h (67 + 2 * t) 2 = h 119 t) (hnn : (n : Int) ≤ h 119 t) (hce : ∀ i : Nat, (i : Int) < h 119 t → h (68 + 2 * t) i = h 120 (60 * t + i)) (hok : okN (h 122) (nums h t) n = true) : zCi mX11_changeSpare 3 [zA 0, zA (67 + 2 * t), zI n] h (fun v h' => (∀ S : tSt, tdF (h 122) (nums h t) n = some S → S.2.2.2 = v ∧ spR h' (h 122) S ∧ tG (h 122) n S) ∧ (tdF (h 122) (nums h t) n = none → (-1 : Int) = v) ∧ fr14 h h') := by
  refine z_enter [zA 0, zA (67 + 2 * t), zI n, zU, zU, zU, zU] (by decide +kernel) (Nat.le_of_ble_eq_true rfl) rfl (fun hra hrg => ?_)
  obtain ⟨⟨hb, hst, e0, e1, e7, ek, es, eo, hp⟩, hru⟩ := id H
  have hN := nN_eq hb
  have hS := nS_eq hb
  have hN8 := nN_le hb
  have hS20 := nS_le hb
  have hb2 := hb.2.2.1
  refine z_al0 eX11_changeSpare_0 ?_
  refine z_ga eX11_changeSpare_1 fX11_29 zs0 (t := 14) rfl ?_
  refine z_al0 eX11_changeSpare_4 ?_
  refine z_ga eX11_changeSpare_5 fX11_25 zs0 (t := 4) rfl ?_
  refine zc_vv1 eX11_changeSpare_8 lX11_198 tX5_copyFrom zs14 (by decide) (Nat.le_of_ble_eq_true rfl) (x_copyHall _ 14 4 (Or.inr (Or.inl rfl)) (Or.inl rfl) (by omega)) ?_
  rintro g1 C1
  refine z_ki eX11_changeSpare_11 ?_
  refine z_is3 eX11_changeSpare_12 zn0 ?_
  refine z_ki eX11_changeSpare_13 ?_
  refine z_is4 eX11_changeSpare_14 zn0 ?_
  obtain ⟨C0, c0, c1, c6, c7, d1, d2, d3, d4, d5, d6, d7, d8, d9⟩ := C1
  have hfr : fr14 h g1 := fun c hc => C0 c (by omega)
  have eT : ∀ c : Nat, ¬ (14 ≤ c ∧ c ≤ 23) → g1 c = h c := hfr
  exact x_chSp_l h (h 122) hb t ht n hn hsz hnn hce hok n 0 g1 ((h 122 2).toNat, inOf (h 122), (fun s => h 122 (40 + s)), 0) (Nat.zero_add _) rfl (tdF_0 hb hst) ⟨c0.trans e0, c7.trans e7, (c1.trans e1).trans (stN hb), fun k hk => (d2 k (by omega)).trans (ek k hk).2.1, fun s hs => ⟨(d5 s (by omega)).trans (es s hs).1, (d6 s (by omega)).trans (es s hs).2.1, (d7 s (by omega)).trans (es s hs).2.2⟩⟩ hfr
theorem x_told (h : zHp) (H : rHR h) (HT : rTray h) (t n : Int) : zCi mX11_told 4 [zA 0, zI t, zI n] h (fun v h' => pX0 h (qTold h (h 122) t n) v h') := by
  refine z_enter [zA 0, zI t, zI n, zU, zU, zU] (by decide +kernel) (Nat.le_of_ble_eq_true rfl) rfl (fun hra hrg => ?_)
  obtain ⟨⟨hb, hst, e0, e1, e7, ek, es, eo, hp⟩, hru⟩ := id H
  have hN := nN_eq hb
  have hS := nS_eq hb
  have hN8 := nN_le hb
  have hS20 := nS_le hb
  have hb2 := hb.2.2.1
  refine z_al0 eX11_told_0 ?_
  refine z_il1 eX11_told_1 ?_
  refine z_il2 eX11_told_2 ?_
  refine zc_vi2 eX11_told_3 lX11_264 tX11_whyNotTold zs0 (by decide) (Nat.le_of_ble_eq_true rfl) (x_whyT _ H HT _ _) ?_
  rintro _ _ ⟨rfl, rfl⟩ -
  refine z_is3 eX11_told_6 zn0 ?_
  refine z_il3 eX11_told_7 ?_
  refine z_ieq eX11_told_8 rfl (fun c8 => ?_) (fun c8 => ?_)
  · have hk := cWhy_ok c8
    obtain ⟨t, rfl⟩ := Int.eq_ofNat_of_zero_le hk.1.1
    obtain ⟨n, rfl⟩ := Int.eq_ofNat_of_zero_le hk.2.2.1.1
    simp only [Int.toNat_natCast] at hk
    have ht : t < 4 := by omega
    have HTt := (HT t ht).2.2.2 hk.2.1
    refine z_al0 eX11_told_17 ?_
    refine z_al0 eX11_told_18 ?_
    refine z_ga eX11_told_19 fX11_11 zs0 (t := 1) rfl ?_
    refine z_il1 eX11_told_22 ?_
    refine zr_aN eX11_told_23 zs1 (Or.inl rfl) (j := t) (by omega) (by omega) (t := (67 + 2 * t)) (zTr1 ht) ?_
    refine z_il2 eX11_told_24 ?_
    refine zc_vi2 eX11_told_25 lX11_267 tX11_changeSpare zs0 (by decide) (Nat.le_of_ble_eq_true rfl) (x_chSp h H t ht n (by omega) HTt.2.1 hk.2.2.2.1 HTt.2.2 hk.2.2.2.2) ?_
    rintro y g ⟨w1, w2, hfr⟩ -
    have hxf := hfr.xf
    refine z_is4 eX11_told_28 zn0 ?_
    refine z_il4 eX11_told_30 ?_
    refine z_ki eX11_told_32 ?_
    refine z_cne eX11_told_33 rfl (fun c33 => ?_) (fun c33 => ?_)
    · have hS : ∃ S : tSt, tdF (h 122) (nums h t) n = some S := by
        cases hc : tdF (h 122) (nums h t) n with
        | none => exact absurd (w2 hc).symm c33
        | some S => exact ⟨S, rfl⟩
      obtain ⟨S, hS⟩ := hS
      obtain ⟨z1, z2, z3⟩ := w1 S hS
      refine z_al0 eX11_told_43 ?_
      refine z_ga eX11_told_44 fX11_65 zs0 (t := 50) rfl ?_
      refine z_al0 eX11_told_47 ?_
      refine z_ga eX11_told_48 fX11_29 zs0 (t := 14) rfl ?_
      refine z_gi eX11_told_51 fX11_221 zs14 ?_
      refine z_al0 eX11_told_54 ?_
      refine z_ga eX11_told_55 fX11_29 zs0 (t := 14) rfl ?_
      refine z_ga eX11_told_58 fX11_237 zs14 (t := 19) rfl ?_
      rw [show g 14 1 = (S.1 : Int) from z2.2.2.1]
      refine zc_vi2 eX11_told_61 lX11_249 tX2_winnerOf zs50 (by decide) (Nat.le_of_ble_eq_true rfl) (x_winWD (H.xf hxf) (hfr 122 (by omega)) 19 rfl (by decide) S.2.1 (fun s hs => (z2.2.2.2.2 s hs).1) (fun s hs => by have := z3.2.1 s hs; omega) S.1 z3.1) ?_
      rintro _ g2 ⟨rfl, hfr2⟩ -
      have hxf2 := hxf.fr hfr2 (by decide) (fun _ => rfl)
      have hwb := winW_b hb S.2.1 S.1
      refine z_is5 eX11_told_64 zn0 ?_
      refine z_il5 eX11_told_66 ?_
      refine z_ki eX11_told_68 ?_
      refine z_cne eX11_told_69 rfl (fun c69 => ?_) (fun c69 => ?_)
      · refine z_al0 eX11_told_81 ?_
        refine z_il5 eX11_told_82 ?_
        refine zc_vi1 eX11_told_84 lX11_202 tX11_answer zs0 (by decide) (Nat.le_of_ble_eq_true rfl) (x_answer _ _) ?_
        rintro _ _ ⟨rfl, rfl⟩ -
        refine ze_i eX11_told_87 rfl ?_
        refine pX0_f hxf2 ?_
        unfold qTold
        rw [if_pos c8]
        simp only [Int.toNat_natCast]
        rw [hS]
        simp only []
        rw [if_neg (by omega)]
      · refine z_al0 eX11_told_72 ?_
        refine z_ki eX11_told_73 ?_
        refine zc_vi1 eX11_told_75 lX11_153 tX11_fail zs0 (by decide) (Nat.le_of_ble_eq_true rfl) (x_fail _ _) ?_
        rintro _ _ ⟨rfl, rfl⟩ -
        refine z_goto eX11_told_78 rfl ?_
        refine ze_i eX11_told_87 rfl ?_
        refine pX0_f hxf2 ?_
        unfold qTold
        rw [if_pos c8]
        simp only [Int.toNat_natCast]
        rw [hS]
        simp only []
        rw [if_pos (by omega)]
    · refine z_al0 eX11_told_36 ?_
      refine z_ki eX11_told_37 ?_
      refine zc_vi1 eX11_told_39 lX11_153 tX11_fail zs0 (by decide) (Nat.le_of_ble_eq_true rfl) (x_fail _ _) ?_
      rintro _ _ ⟨rfl, rfl⟩ -
      refine ze_i eX11_told_42 rfl ?_
      have hS : tdF (h 122) (nums h t) n = none := by
        cases hc : tdF (h 122) (nums h t) n with
        | none => rfl
        | some S => have := w1 S hc; have := this.2.2.2.2.1; omega
      refine pX0_f hxf ?_
      unfold qTold
      rw [if_pos c8]
      simp only [Int.toNat_natCast]
      rw [hS]
      
  · refine z_al0 eX11_told_11 ?_
    refine z_il3 eX11_told_12 ?_
    refine zc_vi1 eX11_told_13 lX11_153 tX11_fail zs0 (by decide) (Nat.le_of_ble_eq_true rfl) (x_fail _ _) ?_
    rintro _ _ ⟨rfl, rfl⟩ -
    refine ze_i eX11_told_16 rfl ?_
    exact pX0_f zXf.rf (by unfold qTold; rw [if_neg c8])
theorem x_costC (h : zHp) (H : rHR h) (HT : rTray h) (t n : Int) : zCi mX11_cost 4 [zA 0, zI t, zI n] h (fun v h' => pX0 h (qCost h (h 122) t n) v h') := by
  refine z_enter [zA 0, zI t, zI n, zU, zU] (by decide +kernel) (Nat.le_of_ble_eq_true rfl) rfl (fun hra hrg => ?_)
  obtain ⟨⟨hb, hst, e0, e1, e7, ek, es, eo, hp⟩, hru⟩ := id H
  have hN := nN_eq hb
  have hS := nS_eq hb
  have hN8 := nN_le hb
  have hS20 := nS_le hb
  have hb2 := hb.2.2.1
  refine z_al0 eX11_cost_0 ?_
  refine z_il1 eX11_cost_1 ?_
  refine z_il2 eX11_cost_2 ?_
  refine zc_vi2 eX11_cost_3 lX11_264 tX11_whyNotTold zs0 (by decide) (Nat.le_of_ble_eq_true rfl) (x_whyT _ H HT _ _) ?_
  rintro _ _ ⟨rfl, rfl⟩ -
  refine z_is3 eX11_cost_6 zn0 ?_
  refine z_il3 eX11_cost_7 ?_
  refine z_ieq eX11_cost_8 rfl (fun c8 => ?_) (fun c8 => ?_)
  · have hk := cWhy_ok c8
    obtain ⟨t, rfl⟩ := Int.eq_ofNat_of_zero_le hk.1.1
    obtain ⟨n, rfl⟩ := Int.eq_ofNat_of_zero_le hk.2.2.1.1
    simp only [Int.toNat_natCast] at hk
    have ht : t < 4 := by omega
    have HTt := (HT t ht).2.2.2 hk.2.1
    refine z_al0 eX11_cost_17 ?_
    refine z_al0 eX11_cost_18 ?_
    refine z_ga eX11_cost_19 fX11_11 zs0 (t := 1) rfl ?_
    refine z_il1 eX11_cost_22 ?_
    refine zr_aN eX11_cost_23 zs1 (Or.inl rfl) (j := t) (by omega) (by omega) (t := (67 + 2 * t)) (zTr1 ht) ?_
    refine z_il2 eX11_cost_24 ?_
    refine zc_vi2 eX11_cost_25 lX11_267 tX11_changeSpare zs0 (by decide) (Nat.le_of_ble_eq_true rfl) (x_chSp h H t ht n (by omega) HTt.2.1 hk.2.2.2.1 HTt.2.2 hk.2.2.2.2) ?_
    rintro y g ⟨w1, w2, hfr⟩ -
    have hxf := hfr.xf
    refine z_is4 eX11_cost_28 zn0 ?_
    refine z_il4 eX11_cost_30 ?_
    refine z_ki eX11_cost_32 ?_
    refine z_cne eX11_cost_33 rfl (fun c33 => ?_) (fun c33 => ?_)
    · have hS : ∃ S : tSt, tdF (h 122) (nums h t) n = some S := by
        cases hc : tdF (h 122) (nums h t) n with
        | none => exact absurd (w2 hc).symm c33
        | some S => exact ⟨S, rfl⟩
      obtain ⟨S, hS⟩ := hS
      obtain ⟨z1, z2, z3⟩ := w1 S hS
      refine z_al0 eX11_cost_45 ?_
      refine z_il4 eX11_cost_46 ?_
      refine zc_vi1 eX11_cost_48 lX11_202 tX11_answer zs0 (by decide) (Nat.le_of_ble_eq_true rfl) (x_answer _ _) ?_
      rintro _ _ ⟨rfl, rfl⟩ -
      refine ze_i eX11_cost_51 rfl ?_
      have hS : ∃ S : tSt, tdF (h 122) (nums h t) n = some S := by
        cases hc : tdF (h 122) (nums h t) n with
        | none => exact absurd (w2 hc).symm c33
        | some S => exact ⟨S, rfl⟩
      obtain ⟨S, hS⟩ := hS
      obtain ⟨z1, z2, z3⟩ := w1 S hS
      refine pX0_f hxf ?_
      unfold qCost
      rw [if_pos c8]
      simp only [Int.toNat_natCast]
      rw [hS]
      rw [← z1]
    · refine z_al0 eX11_cost_36 ?_
      refine z_ki eX11_cost_37 ?_
      refine zc_vi1 eX11_cost_39 lX11_153 tX11_fail zs0 (by decide) (Nat.le_of_ble_eq_true rfl) (x_fail _ _) ?_
      rintro _ _ ⟨rfl, rfl⟩ -
      refine z_goto eX11_cost_42 rfl ?_
      refine ze_i eX11_cost_51 rfl ?_
      have hS : tdF (h 122) (nums h t) n = none := by
        cases hc : tdF (h 122) (nums h t) n with
        | none => rfl
        | some S => have := w1 S hc; have := this.2.2.2.2.1; omega
      refine pX0_f hxf ?_
      unfold qCost
      rw [if_pos c8]
      simp only [Int.toNat_natCast]
      rw [hS]
      
  · refine z_al0 eX11_cost_11 ?_
    refine z_il3 eX11_cost_12 ?_
    refine zc_vi1 eX11_cost_13 lX11_153 tX11_fail zs0 (by decide) (Nat.le_of_ble_eq_true rfl) (x_fail _ _) ?_
    rintro _ _ ⟨rfl, rfl⟩ -
    refine ze_i eX11_cost_16 rfl ?_
    exact pX0_f zXf.rf (by unfold qCost; rw [if_neg c8])
