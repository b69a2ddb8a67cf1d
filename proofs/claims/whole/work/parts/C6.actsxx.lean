-- the class reads steps (written by wip/tools/specK5b.py)
def bg (g : zHp) : List (Nat × Nat) → Prop
  | [] => True
  | p :: r => g 47 r.length = (p.1 : Int) ∧ bg g r
theorem bg_cg {g f : zHp} : ∀ (k : List (Nat × Nat)), (∀ i : Nat, i < k.length → f 47 i = g 47 i) → bg g k → bg f k := by
  intro k
  induction k with
  | nil => intro _ _; trivial
  | cons p r ih =>
    intro e H
    exact ⟨by rw [e _ (by rw [List.length_cons]; omega)]; exact H.1, ih (fun i hi => e i (by rw [List.length_cons]; omega)) H.2⟩
/-- the class's new acts: s steps, n nodes, the blocks stk begun -/
def aI (g A : zHp) (sp : Int) (s n : Nat) (stk : List (Nat × Nat)) : Prop := (g 40 0 = (n : Int) ∧ g 40 1 = (s : Int) ∧ g 40 2 = sp ∧ g 40 10 = (stk.length : Int)) ∧ (s ≤ 40 ∧ n + stk.length ≤ 2 * s ∧ stk.length ≤ 3) ∧ (sp = 0 ∨ sp = 1) ∧ bg g stk ∧ pb (mx g A) stk s n
def xSt (h0 : zHp) (B : Nat → Int) (L q : Nat) (R : Rs) (v : Int) (g : zHp) : Prop := match R with
  | .inl e => (0 : Int) = v ∧ xXs 40 47 h0 e.1 e.2 g
  | .inr t => (1 : Int) = v ∧ q < t.1 ∧ t.1 ≤ L ∧ g 2 3 = (t.1 : Int) ∧ xTs 40 47 h0 B L g ∧ aI g t.2.2.2.2.2 t.2.2.2.2.1 t.2.1 t.2.2.1 t.2.2.2.1
theorem xSt01 {h0 g : zHp} {B : Nat → Int} {L q : Nat} {R : Rs} {v : Int} (H : xSt h0 B L q R v g) : v = 0 ∨ v = 1 := by
  cases R with
  | inl e => exact Or.inl H.1.symm
  | inr s => exact Or.inr H.1.symm
theorem aI_en {h g A : zHp} {sp : Int} {s n nd st : Nat} {r : List (Nat × Nat)} (I : aI h A sp s n ((nd, st) :: r)) (c40 : g 40 0 = (n : Int) + 1 ∧ g 40 1 = (s : Int) ∧ g 40 2 = sp ∧ g 40 10 = (r.length : Int)) (c41 : g 41 n = 8) (c46 : g 46 n = (nd : Int) ∧ g 46 nd = (n : Int)) (cx : ∀ c i : Nat, 41 ≤ c ∧ c ≤ 45 → ¬ i = n → g c i = h c i) (cm : ∀ i : Nat, ¬ i = n → ¬ i = nd → g 46 i = h 46 i) (c47 : g 47 = h 47) : aI g (zup A 129 st (s : Int)) sp s (n + 1) r := by
  obtain ⟨i1, i2, i3, i4, i5⟩ := I
  rw [List.length_cons] at i2
  obtain ⟨h1, h2, h3, h4, h5, h6⟩ := i5
  have uA : ∀ c j : Nat, ¬ (c = 129 ∧ j = st) → zup A 129 st (s : Int) c j = A c j := fun c j hj => zup_ne hj
  have rw1 : ∀ j : Nat, ¬ j = st → rwE (mx g (zup A 129 st (s : Int))) (mx h A) j := fun j hj => mx_rw (fun c _ => uA c j (by omega))
  have nd1 : ∀ i : Nat, ¬ i = n → ¬ i = nd → ndE (mx g (zup A 129 st (s : Int))) (mx h A) i := fun i i1 i2 => mx_nd (fun c hc => by
    by_cases z : c = 46
    · rw [z]; exact cm i i1 i2
    · exact cx c i (by omega) i1)
  refine ⟨⟨by rw [c40.1]; omega, c40.2⟩, ⟨i2.1, by omega, by omega⟩, i3, bg_cg r (fun i _ => by rw [c47]) i4.2, ?_⟩
  have H2 : hdO (mx g (zup A 129 st (s : Int))) st nd := h4.cg ⟨by rw [mx_A (by omega), mx_A (by omega)]; exact uA _ _ (by omega), by rw [mx_A (by omega), mx_A (by omega)]; exact uA _ _ (by omega), by rw [mx_A (by omega), mx_A (by omega)]; exact uA _ _ (by omega)⟩ ⟨cx 41 nd (by omega) (by omega), cx 42 nd (by omega) (by omega), cx 44 nd (by omega) (by omega), cx 45 nd (by omega) (by omega)⟩
  have B2 := blk_b H2 h1 h2 (by rw [mx_A (by omega), zup_at]) (show mx g _ 33 n = 8 from c41) (show mx g _ 38 n = _ from c46.1) (show mx g _ 38 nd = _ from c46.2) (blk_cg2 _ _ _ _ _ _ (fun j j1 _ => rw1 j (by omega)) (fun i i1 i2 => nd1 i (by omega) (by omega)) h5)
  rw [show 2 - r.length + 1 = 3 - r.length by omega] at B2
  exact pb_ap (by omega) i2.1 (pb_cg r st nd h6 (fun j hj => rw1 j (by omega)) (fun i hi => nd1 i (by omega) (by omega))) B2
theorem aI_st {h g A A2 : zHp} {sp kd : Int} {s n : Nat} {stk : List (Nat × Nat)} (I : aI h A sp s n stk) (hs : s < 40) (hkd : 0 ≤ kd ∧ kd ≤ 7) (hk : 5 ≤ kd → stk.length < 3) (c40 : g 40 0 = (n : Int) + 1 ∧ g 40 1 = (s : Int) + 1 ∧ g 40 2 = (if kd = 4 then 1 else sp) ∧ g 40 10 = (if 5 ≤ kd then (stk.length : Int) + 1 else (stk.length : Int))) (c41 : g 41 n = kd) (cx : ∀ c i : Nat, 41 ≤ c ∧ c ≤ 46 → i < n → g c i = h c i) (c47 : ∀ i : Nat, i < stk.length → g 47 i = h 47 i) (c47b : 5 ≤ kd → g 47 stk.length = (n : Int)) (rA : ∀ c i : Nat, ¬ i = s → A2 c i = A c i) (rk : A2 126 s = kd) (ag : agI kd n s g A2) : aI g (if 5 ≤ kd then A2 else zup A2 129 s ((s : Int) + 1)) (if kd = 4 then 1 else sp) (s + 1) (n + 1) (if 5 ≤ kd then (n, s) :: stk else stk) := by
  obtain ⟨i1, i2, i3, i4, i5⟩ := I
  have hsp : (if kd = 4 then 1 else sp) = 0 ∨ (if kd = 4 then 1 else sp) = 1 := by split; exact Or.inr rfl; exact i3
  have nd1 : ∀ (A3 : zHp) (i : Nat), i < n → ndE (mx g A3) (mx h A) i := fun A3 i hi => mx_nd (fun c hc => cx c i hc hi)
  by_cases z : 5 ≤ kd
  · rw [if_pos z] at c40
    rw [if_pos z, if_pos z]
    have hl := hk z
    refine ⟨⟨by rw [c40.1]; omega, by rw [c40.2.1]; omega, c40.2.2.1, by rw [c40.2.2.2, List.length_cons]; omega⟩, ⟨by omega, by rw [List.length_cons]; omega, by rw [List.length_cons]; omega⟩, hsp, ⟨c47b z, bg_cg stk c47 i4⟩, by omega, by omega, by omega, ?_, blk_0 _, pb_cg stk s n i5 (fun j hj => mx_rw (fun c _ => rA c j (by omega))) (nd1 A2)⟩
    unfold hdO
    rw [mx_A (c := 126) (by omega), mx_A (c := 127) (by omega), mx_A (c := 134) (by omega), rk]
    refine ⟨c41, z, hkd.2, fun y => ag.2.2.2.1 y, fun y => ag.2.2.2.2 y⟩
  · rw [if_neg z] at c40
    rw [if_neg z, if_neg z]
    have uA : ∀ c j : Nat, ¬ (c = 129 ∧ j = s) → zup A2 129 s ((s : Int) + 1) c j = A2 c j := fun c j hj => zup_ne hj
    refine ⟨⟨by rw [c40.1]; omega, by rw [c40.2.1]; omega, c40.2.2.1, c40.2.2.2⟩, ⟨by omega, by omega, i2.2.2⟩, hsp, bg_cg stk c47 i4, ?_⟩
    refine pb_ap (f := 1) i2.2.2 (by omega) (pb_cg stk s n i5 (fun j hj => mx_rw (fun c _ => by rw [uA c j (by omega)]; exact rA c j (by omega))) (nd1 _)) (blk_1 ?_ ?_ ?_)
    · rw [mx_A (c := 126) (by omega), uA _ _ (by omega), rk]; exact c41
    · rw [mx_A (by omega), zup_at]
    · rw [mx_A (c := 126) (by omega), mx_A (c := 127) (by omega), mx_A (c := 128) (by omega), mx_A (c := 134) (by omega), uA 126 s (by omega), uA 127 s (by omega), uA 128 s (by omega), uA 134 s (by omega), rk]
      by_cases y1 : kd < 2
      · exact Or.inl ⟨hkd.1, by omega, ag.1 y1⟩
      · by_cases y2 : kd = 4
        · exact Or.inr (Or.inr ⟨y2, ag.2.2.1 y2⟩)
        · exact Or.inr (Or.inl ⟨by omega, by omega, ag.2.1 (by omega)⟩)
theorem x_readEnd (h0 h : zHp) (B : Nat → Int) (L q s n : Nat) (stk : List (Nat × Nat)) (sp : Int) (A : zHp) (S : xTs 40 47 h0 B L h) (T : xTk B L q h) (hq : q ≤ L) (I : aI h A sp s n stk) (k : isK B L q 13) : zCi mX0_readEnd 4 [zA 40, zA 2] h (fun v h' => xSt h0 B L q (enF B L q s n stk sp A) v h') := by
  refine z_enter [zA 40, zA 2] (by decide +kernel) (Nat.le_of_ble_eq_true rfl) rfl (fun hra hrg => ?_)
  have kb := tk_b (B := B) hq
  obtain ⟨i1, i2, i3, i4, i5⟩ := id I
  refine z_al0 eX0_readEnd_0 ?_
  refine z_gi eX0_readEnd_1 fX0_52 zs40 ?_
  refine z_ile eX0_readEnd_4 rfl (fun c4 => ?_) (fun c4 => ?_)
  · refine z_al1 eX0_readEnd_16 ?_
    refine z_ki eX0_readEnd_17 ?_
    refine zc_vi1 eX0_readEnd_18 lX0_64 tX9_refuse zs2 (by decide) (Nat.le_of_ble_eq_true rfl) (x_ref T _) ?_
    rintro _ _ ⟨rfl, rfl⟩ -
    refine ze_z eX0_readEnd_21 rfl (by first | exact Or.inl rfl | exact Or.inr rfl) ?_
    have e0 : stk = [] := by
      cases stk with
      | nil => rfl
      | cons p r => rw [List.length_cons] at i1; omega
    subst e0
    exact ⟨rfl, S.bad _ _⟩
  · refine z_al0 eX0_readEnd_7 ?_
    refine z_gi eX0_readEnd_8 fX0_35 zs40 ?_
    refine z_ki eX0_readEnd_11 ?_
    refine z_clt eX0_readEnd_13 rfl (fun c13 => ?_) (fun c13 => ?_)
    · obtain ⟨p, r, rfl⟩ : ∃ p r, stk = p :: r := by
        cases stk with
        | nil => have := i1.2.2.2; rw [List.length_nil] at this; omega
        | cons p r => exact ⟨p, r, rfl⟩
      rw [List.length_cons] at i1 i2
      obtain ⟨b1, b2⟩ := i4
      have i50 := i5.1
      have i51 := i5.2.1
      refine z_al0 eX0_readEnd_22 ?_
      refine z_dup eX0_readEnd_23 zn2 ?_
      refine z_gi eX0_readEnd_24 fX0_52 zs40 ?_
      refine z_ki eX0_readEnd_27 ?_
      refine z_isubN eX0_readEnd_28 (by omega) (by omega) ?_
      rw [show h 40 10 - 1 = (r.length : Int) by omega]
      refine z_pi eX0_readEnd_29 pX0_52 zs40 ?_
      refine z_al0 eX0_readEnd_32 ?_
      refine z_ga eX0_readEnd_33 fX0_11 zs40 (t := 41) rfl ?_
      refine z_al0 eX0_readEnd_36 ?_
      refine z_gi eX0_readEnd_37 fX0_35 zs40 ?_
      refine z_ki eX0_readEnd_40 ?_
      rw [zup_ne (by decide), i1.1]
      refine zs_iN eX0_readEnd_42 zs41 (j := n) (by omega) (by omega) ?_
      refine z_al0 eX0_readEnd_43 ?_
      refine z_ga eX0_readEnd_44 fX0_29 zs40 (t := 46) rfl ?_
      refine z_al0 eX0_readEnd_47 ?_
      refine z_gi eX0_readEnd_48 fX0_35 zs40 ?_
      rw [zup_off (by decide), zup_ne (by decide), i1.1]
      refine z_al0 eX0_readEnd_51 ?_
      refine z_ga eX0_readEnd_52 fX0_32 zs40 (t := 47) rfl ?_
      refine z_al0 eX0_readEnd_55 ?_
      refine z_gi eX0_readEnd_56 fX0_52 zs40 ?_
      rw [zup_off (by decide), zup_at]
      refine zr_iN eX0_readEnd_59 zs47 (j := r.length) (by omega) (by omega) ?_
      rw [zup_off (by decide), zup_off (by decide), b1]
      refine zs_iN eX0_readEnd_60 zs46 (j := n) (by omega) (by omega) ?_
      refine z_al0 eX0_readEnd_61 ?_
      refine z_ga eX0_readEnd_62 fX0_29 zs40 (t := 46) rfl ?_
      refine z_al0 eX0_readEnd_65 ?_
      refine z_ga eX0_readEnd_66 fX0_32 zs40 (t := 47) rfl ?_
      refine z_al0 eX0_readEnd_69 ?_
      refine z_gi eX0_readEnd_70 fX0_52 zs40 ?_
      rw [zup_off (by decide), zup_off (by decide), zup_at]
      refine zr_iN eX0_readEnd_73 zs47 (j := r.length) (by omega) (by omega) ?_
      rw [zup_off (by decide), zup_off (by decide), zup_off (by decide), b1]
      refine z_al0 eX0_readEnd_74 ?_
      refine z_gi eX0_readEnd_75 fX0_35 zs40 ?_
      rw [zup_off (by decide), zup_off (by decide), zup_ne (by decide), i1.1]
      refine zs_iN eX0_readEnd_78 zs46 (j := p.1) (by omega) (by omega) ?_
      refine z_al0 eX0_readEnd_79 ?_
      refine z_dup eX0_readEnd_80 zn2 ?_
      refine z_gi eX0_readEnd_81 fX0_35 zs40 ?_
      rw [zup_off (by decide), zup_off (by decide), zup_off (by decide), zup_ne (by decide), i1.1]
      refine z_ki eX0_readEnd_84 ?_
      refine z_iaddN eX0_readEnd_85 (by omega) (by omega) ?_
      refine z_pi eX0_readEnd_86 pX0_35 zs40 ?_
      have S6 : xTs 40 47 h0 B L (zup (zup (zup (zup (zup h 40 10 (r.length : Int)) 41 n 8) 46 n (p.1 : Int)) 46 p.1 (n : Int)) 40 0 ((n : Int) + 1)) := ((((S.up (c := 40) (by decide) (by decide) _ _).up (c := 41) (by decide) (by decide) _ _).up (c := 46) (by decide) (by decide) _ _).up (c := 46) (by decide) (by decide) _ _).up (c := 40) (by decide) (by decide) _ _
      have e36 : (zup (zup (zup (zup (zup h 40 10 (r.length : Int)) 41 n 8) 46 n (p.1 : Int)) 46 p.1 (n : Int)) 40 0 ((n : Int) + 1)) 2 3 = ((tkE B L q : Nat) : Int) := by rw [zup_off (by decide), zup_off (by decide), zup_off (by decide), zup_off (by decide), zup_off (by decide)]; exact T.2.2.2.2 (by omega)
      refine z_al1 eX0_readEnd_89 ?_
      refine zc_vi0 eX0_readEnd_90 lX0_81 tX9_expectSign zs2 (by decide) (Nat.le_of_ble_eq_true rfl) (x_expSign _ B L S6.2.1 _ kb.2.2.1 e36) ?_
      rintro v2 g8 ⟨g9, F9, T9, p1, p2⟩ -
      have v01 : v2 = 0 ∨ v2 = 1 := by
        by_cases z : sgK B L (tkE B L q) = 0
        · exact Or.inr (p1 z).1.symm
        · exact Or.inl (p2 z).1.symm
      refine ze_z eX0_readEnd_93 rfl (by exact v01) ?_
      have kb1 := tk_b (B := B) kb.2.2.1
      by_cases z : sgK B L (tkE B L q) = 0
      · obtain ⟨rfl, rfl⟩ := p1 z
        have k3 := sgK_b.2.1 z
        have e : enF B L q s n (p :: r) sp A = .inr (tkE B L (tkE B L q), s, n + 1, r, sp, zup A 129 p.2 (s : Int)) := if_pos z
        rw [e]
        refine ⟨rfl, by show q < tkE B L (tkE B L q); have := kb1.2.2.2.1 (by omega); omega, kb1.2.2.1, T9.2.2.2.2 (by omega), S6.fr F9, ?_⟩
        refine aI_en (nd := p.1) I ⟨?_, ?_, ?_, ?_⟩ ?_ ⟨?_, ?_⟩ (fun c i hc hi => ?_) (fun i i1 i2 => ?_) ?_
        · rw [F9.1 40 (by decide), zup_at]
        · rw [F9.1 40 (by decide), zup_ne (by decide), zup_off (by decide), zup_off (by decide), zup_off (by decide), zup_ne (by decide)]; exact i1.2.1
        · rw [F9.1 40 (by decide), zup_ne (by decide), zup_off (by decide), zup_off (by decide), zup_off (by decide), zup_ne (by decide)]; exact i1.2.2.1
        · rw [F9.1 40 (by decide), zup_ne (by decide), zup_off (by decide), zup_off (by decide), zup_off (by decide), zup_at]
        · rw [F9.1 41 (by decide), zup_off (by decide), zup_off (by decide), zup_off (by decide), zup_at]
        · rw [F9.1 46 (by decide), zup_off (by decide), zup_ne (by omega), zup_at]
        · rw [F9.1 46 (by decide), zup_off (by decide), zup_at]
        · rw [F9.1 c (by omega), zup_off (by omega), zup_off (by omega), zup_off (by omega), zup_ne (by omega), zup_off (by omega)]
        · rw [F9.1 46 (by decide), zup_off (by decide), zup_ne (by omega), zup_ne (by omega), zup_off (by decide), zup_off (by decide)]
        · rw [F9.1 47 (by decide), zup_off (by decide), zup_off (by decide), zup_off (by decide), zup_off (by decide), zup_off (by decide)]
      · obtain ⟨rfl, rfl⟩ := p2 z
        have e : enF B L q s n (p :: r) sp A = .inl (sgK B L (tkE B L q), tkA B L (tkE B L q)) := if_neg z
        rw [e]
        exact ⟨rfl, (S6.fr F9).bad _ _⟩
    · omega
theorem x_readStep2 (h0 h : zHp) (B : Nat → Int) (L q s n : Nat) (stk : List (Nat × Nat)) (sp : Int) (A : zHp) (S : xTs 40 47 h0 B L h) (T : xTk B L q h) (hq : q ≤ L) (I : aI h A sp s n stk) (k0 : ¬ tkK B L q = 0) : zCi mX0_readStep 8 [zA 40, zA 2] h (fun v h' => xSt h0 B L q (seF B L q s n stk sp A) v h') := by
  refine z_enter [zA 40, zA 2, zU, zU, zU] (by decide +kernel) (Nat.le_of_ble_eq_true rfl) rfl (fun hra hrg => ?_)
  have kb := tk_b (B := B) hq
  obtain ⟨i1, i2, i3, i4, i5⟩ := id I
  have kd := kdS_b (B := B) (L := L) (q := q)
  refine z_al1 eX0_readStep_0 ?_
  refine zc_si1 eX0_readStep_1 lX0_84 tX0_kindAt (by decide) (Nat.le_of_ble_eq_true rfl) (x_kindAt _ B L S.2.1 q hq T) ?_
  rintro _ _ ⟨rfl, rfl⟩ -
  refine z_is2 eX0_readStep_4 zn2 ?_
  refine z_il2 eX0_readStep_5 ?_
  refine z_ki eX0_readStep_6 ?_
  refine z_cne eX0_readStep_7 rfl (fun c7 => ?_) (fun c7 => ?_)
  · have k1 := kd.2.2 (by omega)
    refine z_il2 eX0_readStep_16 ?_
    refine z_ki eX0_readStep_17 ?_
    refine z_clt eX0_readStep_18 rfl (fun c18 => ?_) (fun c18 => ?_)
    · refine z_ki eX0_readStep_25 ?_
      refine z_is3 eX0_readStep_26 zn0 ?_
      refine z_il3 eX0_readStep_27 ?_
      refine z_ieq eX0_readStep_28 rfl (fun c28 => ?_) (fun c28 => ?_)
      · refine z_al0 eX0_readStep_45 ?_
        refine z_gi eX0_readStep_46 fX0_39 zs40 ?_
        refine z_ki eX0_readStep_49 ?_
        refine z_cge eX0_readStep_51 rfl (fun c51 => ?_) (fun c51 => ?_)
        · refine z_al1 eX0_readStep_63 ?_
          refine z_ki eX0_readStep_64 ?_
          refine zc_vi1 eX0_readStep_66 lX0_64 tX9_refuse zs2 (by decide) (Nat.le_of_ble_eq_true rfl) (x_ref T _) ?_
          rintro _ _ ⟨rfl, rfl⟩ -
          refine ze_z eX0_readStep_69 rfl (by first | exact Or.inl rfl | exact Or.inr rfl) ?_
          have e : seF B L q s n stk sp A = .inl (6, tkA B L q) := by unfold seF; rw [if_neg (by omega), if_neg (fun y => absurd y.1 (by omega)), if_pos (by omega)]
          rw [e, fK_1 (by omega)]
          exact ⟨rfl, S.bad _ _⟩
        · refine z_al0 eX0_readStep_54 ?_
          refine z_gi eX0_readStep_55 fX0_35 zs40 ?_
          refine z_ki eX0_readStep_58 ?_
          refine z_clt eX0_readStep_60 rfl (fun c60 => ?_) (fun c60 => ?_)
          · refine z_al0 eX0_readStep_70 ?_
            refine z_gi eX0_readStep_71 fX0_35 zs40 ?_
            rw [i1.1]
            refine z_is4 eX0_readStep_74 zn0 ?_
            refine z_al0 eX0_readStep_76 ?_
            refine z_dup eX0_readStep_77 zn2 ?_
            refine z_gi eX0_readStep_78 fX0_35 zs40 ?_
            rw [i1.1]
            refine z_ki eX0_readStep_81 ?_
            refine z_iaddN eX0_readStep_82 (by omega) (by omega) ?_
            refine z_pi eX0_readStep_83 pX0_35 zs40 ?_
            refine z_al0 eX0_readStep_86 ?_
            refine z_dup eX0_readStep_87 zn2 ?_
            refine z_gi eX0_readStep_88 fX0_39 zs40 ?_
            rw [zup_ne (by decide), i1.2.1]
            refine z_ki eX0_readStep_91 ?_
            refine z_iaddN eX0_readStep_92 (by omega) (by omega) ?_
            refine z_pi eX0_readStep_93 pX0_39 zs40 ?_
            refine z_al0 eX0_readStep_96 ?_
            refine z_ga eX0_readStep_97 fX0_11 zs40 (t := 41) rfl ?_
            refine z_il4 eX0_readStep_100 ?_
            refine z_il2 eX0_readStep_102 ?_
            refine zs_iN eX0_readStep_103 zs41 (j := n) (by omega) (by omega) ?_
            refine z_il3 eX0_readStep_104 ?_
            refine z_ieq eX0_readStep_105 rfl (fun c105 => ?_) (fun c105 => ?_)
            · have S6 : xTs 40 47 h0 B L (zup (zup (zup h 40 0 ((n : Int) + 1)) 40 1 ((s : Int) + 1)) 41 n (kdS B L q)) := ((S.up (c := 40) (by decide) (by decide) _ _).up (c := 40) (by decide) (by decide) _ _).up (c := 41) (by decide) (by decide) _ _
              have e36 : (zup (zup (zup h 40 0 ((n : Int) + 1)) 40 1 ((s : Int) + 1)) 41 n (kdS B L q)) 2 3 = ((tkE B L q : Nat) : Int) := by rw [zup_off (by decide), zup_off (by decide), zup_off (by decide)]; exact T.2.2.2.2 (by omega)
              have f0 : (zup (zup (zup h 40 0 ((n : Int) + 1)) 40 1 ((s : Int) + 1)) 41 n (kdS B L q)) 40 0 = (n : Int) + 1 := by rw [zup_off (by decide), zup_ne (by decide), zup_at]
              have f1 : (zup (zup (zup h 40 0 ((n : Int) + 1)) 40 1 ((s : Int) + 1)) 41 n (kdS B L q)) 40 1 = (s : Int) + 1 := by rw [zup_off (by decide), zup_at]
              have f2 : (zup (zup (zup h 40 0 ((n : Int) + 1)) 40 1 ((s : Int) + 1)) 41 n (kdS B L q)) 40 2 = sp := by rw [zup_off (by decide), zup_ne (by decide), zup_ne (by decide)]; exact i1.2.2.1
              have f10 : (zup (zup (zup h 40 0 ((n : Int) + 1)) 40 1 ((s : Int) + 1)) 41 n (kdS B L q)) 40 10 = (if 5 ≤ kdS B L q then (stk.length : Int) + 1 else (stk.length : Int)) := by rw [if_neg (by omega), zup_off (by decide), zup_ne (by decide), zup_ne (by decide)]; exact i1.2.2.2
              have f41 : (zup (zup (zup h 40 0 ((n : Int) + 1)) 40 1 ((s : Int) + 1)) 41 n (kdS B L q)) 41 n = kdS B L q := by rw [zup_at]
              have fx : ∀ c i : Nat, 41 ≤ c ∧ c ≤ 46 → i < n → (zup (zup (zup h 40 0 ((n : Int) + 1)) 40 1 ((s : Int) + 1)) 41 n (kdS B L q)) c i = h c i := fun c i hc hi => by rw [zup_ne (by omega), zup_off (by omega), zup_off (by omega)]
              have f47 : ∀ i : Nat, i < stk.length → (zup (zup (zup h 40 0 ((n : Int) + 1)) 40 1 ((s : Int) + 1)) 41 n (kdS B L q)) 47 i = h 47 i := fun i hi => by rw [zup_off (by decide), zup_off (by decide), zup_off (by decide)]
              have f47b : 5 ≤ kdS B L q → (zup (zup (zup h 40 0 ((n : Int) + 1)) 40 1 ((s : Int) + 1)) 41 n (kdS B L q)) 47 stk.length = (n : Int) := fun z => by omega
              generalize (zup (zup (zup h 40 0 ((n : Int) + 1)) 40 1 ((s : Int) + 1)) 41 n (kdS B L q)) = hE at S6 e36 f0 f1 f2 f10 f41 fx f47 f47b ⊢
              have eF : seF B L q s n stk sp A = hdF B L (kdS B L q) s n stk sp (arF B L s (tkE B L q) (kdS B L q) (zup A 126 s (kdS B L q))) := by
                unfold seF
                rw [if_neg (by omega), if_neg (fun y => absurd y.1 (by omega)), if_neg (by omega)]
              rw [eF]
              refine z_al0 eX0_readStep_129 ?_
              refine z_al1 eX0_readStep_130 ?_
              refine z_il2 eX0_readStep_131 ?_
              refine z_il4 eX0_readStep_132 ?_
              refine zc_vi3 eX0_readStep_134 lX0_88 tX0_readArguments zs40 (by decide) (Nat.le_of_ble_eq_true rfl) (x_args h0 hE B L (tkE B L q) n s (zup A 126 s (kdS B L q)) S6 e36 kb.2.2.1 (by omega) (kdS B L q) (by omega)) ?_
              rintro v1 g1 R1 -
              refine z_ieq eX0_readStep_137 rfl (fun c137 => ?_) (fun c137 => ?_)
              · refine z_ki eX0_readStep_151 ?_
                refine ze_z eX0_readStep_152 rfl (by first | exact Or.inl rfl | exact Or.inr rfl) ?_
                generalize arF B L s (tkE B L q) (kdS B L q) (zup A 126 s (kdS B L q)) = R at R1 ⊢
                rcases R with e | r
                · exact ⟨rfl, R1.2⟩
                · exact absurd (R1.1.trans c137) (by decide)
              · generalize eA : arF B L s (tkE B L q) (kdS B L q) (zup A 126 s (kdS B L q)) = R at R1 ⊢
                obtain ⟨r, rfl⟩ : ∃ r, R = .inr r := by
                  rcases R with e | r
                  · exact absurd R1.1.symm c137
                  · exact ⟨r, rfl⟩
                obtain ⟨-, r2, r3, r4, r5, r6, r7, r8, r9⟩ := R1
                refine z_al1 eX0_readStep_140 ?_
                refine zc_vi0 eX0_readStep_141 lX0_81 tX9_expectSign zs2 (by decide) (Nat.le_of_ble_eq_true rfl) (x_expSign _ B L r5.2.1 _ r3 r4) ?_
                rintro v2 g8 ⟨g9, F9, T9, p1, p2⟩ -
                refine z_ieq eX0_readStep_144 rfl (fun c144 => ?_) (fun c144 => ?_)
                · refine z_ki eX0_readStep_151 ?_
                  refine ze_z eX0_readStep_152 rfl (by first | exact Or.inl rfl | exact Or.inr rfl) ?_
                  have z : ¬ sgK B L r.1 = 0 := fun z => by have := (p1 z).1; omega
                  obtain ⟨-, rfl⟩ := p2 z
                  have e : hdF B L (kdS B L q) s n stk sp (.inr r) = .inl (sgK B L r.1, tkA B L r.1) := if_neg z
                  rw [e]
                  exact ⟨rfl, (r5.fr F9).bad _ _⟩
                · refine z_ki eX0_readStep_147 ?_
                  refine z_goto eX0_readStep_148 rfl ?_
                  refine ze_z eX0_readStep_152 rfl (by first | exact Or.inl rfl | exact Or.inr rfl) ?_
                  have z : sgK B L r.1 = 0 := by
                    by_cases z : sgK B L r.1 = 0
                    · exact z
                    · exact absurd (p2 z).1.symm c144
                  obtain ⟨-, rfl⟩ := p1 z
                  have k3 := sgK_b.2.1 z
                  have kr := tk_b (B := B) r3
                  have k4 := kb.2.2.2.1 (by omega)
                  have e : hdF B L (kdS B L q) s n stk sp (.inr r) = .inr (tkE B L r.1, s + 1, n + 1, if 5 ≤ kdS B L q then (n, s) :: stk else stk, if kdS B L q = 4 then 1 else sp, if 5 ≤ kdS B L q then r.2 else zup r.2 129 s ((s : Int) + 1)) := if_pos z
                  rw [e]
                  refine ⟨rfl, by show q < tkE B L r.1; omega, kr.2.2.1, T9.2.2.2.2 (by omega), r5.fr F9, ?_⟩
                  have q40 : ∀ i : Nat, g9 40 i = (if kdS B L q = 4 then zup hE 40 2 1 else hE) 40 i := fun i => by rw [F9.1 40 (by decide), r6 40 (by decide) (by omega)]
                  have qE : ∀ c i : Nat, ¬ (c = 40 ∧ i = 2) → (if kdS B L q = 4 then zup hE 40 2 1 else hE) c i = hE c i := fun c i hi => by
                    split
                    · rw [zup_ne hi]
                    · rfl
                  have q2 : (if kdS B L q = 4 then zup hE 40 2 1 else hE) 40 2 = (if kdS B L q = 4 then 1 else sp) := by
                    split
                    · rw [zup_at]
                    · exact f2
                  have q4 : ∀ c i : Nat, 41 ≤ c ∧ c ≤ 47 → ¬ i = n → g9 c i = hE c i := fun c i hc hi => by
                    rw [F9.1 c (by omega), ← qE c i (by omega)]
                    by_cases y : 42 ≤ c ∧ c ≤ 45
                    · exact r7 c i y hi
                    · rw [r6 c (by omega) y]
                  refine aI_st I (by omega) (by omega) (fun y => by omega) ⟨?_, ?_, ?_, ?_⟩ ?_ (fun c i hc hi => ?_) (fun i hi => ?_) (fun y => ?_) (fun c i hi => ?_) ?_ ?_
                  · rw [q40, qE _ _ (by decide)]; exact f0
                  · rw [q40, qE _ _ (by decide)]; exact f1
                  · rw [q40]; exact q2
                  · rw [q40, qE _ _ (by decide)]; exact f10
                  · rw [F9.1 41 (by decide), r6 41 (by decide) (by omega), qE _ _ (by omega)]; exact f41
                  · rw [q4 c i (by omega) (by omega)]; exact fx c i hc hi
                  · rw [F9.1 47 (by decide), r6 47 (by decide) (by omega), qE _ _ (by omega)]; exact f47 i hi
                  · rw [F9.1 47 (by decide), r6 47 (by decide) (by omega), qE _ _ (by omega)]; exact f47b y
                  · rw [r8 c i (by omega), zup_ne (by omega)]
                  · rw [r8 126 s (by omega), zup_at]
                  · have ag := r9
                    unfold agI at ag ⊢
                    rw [F9.1 42 (by decide), F9.1 43 (by decide), F9.1 44 (by decide), F9.1 45 (by decide)]
                    exact ag
            · exact absurd rfl c105
          · omega
      · exact absurd rfl c28
    · refine z_ki eX0_readStep_21 ?_
      refine z_goto eX0_readStep_22 rfl ?_
      refine z_is3 eX0_readStep_26 zn0 ?_
      refine z_il3 eX0_readStep_27 ?_
      refine z_ieq eX0_readStep_28 rfl (fun c28 => ?_) (fun c28 => ?_)
      · exact absurd c28 (by decide)
      · refine z_al0 eX0_readStep_31 ?_
        refine z_gi eX0_readStep_32 fX0_52 zs40 ?_
        refine z_ki eX0_readStep_35 ?_
        refine z_clt eX0_readStep_36 rfl (fun c36 => ?_) (fun c36 => ?_)
        · refine z_al0 eX0_readStep_45 ?_
          refine z_gi eX0_readStep_46 fX0_39 zs40 ?_
          refine z_ki eX0_readStep_49 ?_
          refine z_cge eX0_readStep_51 rfl (fun c51 => ?_) (fun c51 => ?_)
          · refine z_al1 eX0_readStep_63 ?_
            refine z_ki eX0_readStep_64 ?_
            refine zc_vi1 eX0_readStep_66 lX0_64 tX9_refuse zs2 (by decide) (Nat.le_of_ble_eq_true rfl) (x_ref T _) ?_
            rintro _ _ ⟨rfl, rfl⟩ -
            refine ze_z eX0_readStep_69 rfl (by first | exact Or.inl rfl | exact Or.inr rfl) ?_
            have e : seF B L q s n stk sp A = .inl (6, tkA B L q) := by unfold seF; rw [if_neg (by omega), if_neg (fun y => by omega), if_pos (by omega)]
            rw [e, fK_1 (by omega)]
            exact ⟨rfl, S.bad _ _⟩
          · refine z_al0 eX0_readStep_54 ?_
            refine z_gi eX0_readStep_55 fX0_35 zs40 ?_
            refine z_ki eX0_readStep_58 ?_
            refine z_clt eX0_readStep_60 rfl (fun c60 => ?_) (fun c60 => ?_)
            · refine z_al0 eX0_readStep_70 ?_
              refine z_gi eX0_readStep_71 fX0_35 zs40 ?_
              rw [i1.1]
              refine z_is4 eX0_readStep_74 zn0 ?_
              refine z_al0 eX0_readStep_76 ?_
              refine z_dup eX0_readStep_77 zn2 ?_
              refine z_gi eX0_readStep_78 fX0_35 zs40 ?_
              rw [i1.1]
              refine z_ki eX0_readStep_81 ?_
              refine z_iaddN eX0_readStep_82 (by omega) (by omega) ?_
              refine z_pi eX0_readStep_83 pX0_35 zs40 ?_
              refine z_al0 eX0_readStep_86 ?_
              refine z_dup eX0_readStep_87 zn2 ?_
              refine z_gi eX0_readStep_88 fX0_39 zs40 ?_
              rw [zup_ne (by decide), i1.2.1]
              refine z_ki eX0_readStep_91 ?_
              refine z_iaddN eX0_readStep_92 (by omega) (by omega) ?_
              refine z_pi eX0_readStep_93 pX0_39 zs40 ?_
              refine z_al0 eX0_readStep_96 ?_
              refine z_ga eX0_readStep_97 fX0_11 zs40 (t := 41) rfl ?_
              refine z_il4 eX0_readStep_100 ?_
              refine z_il2 eX0_readStep_102 ?_
              refine zs_iN eX0_readStep_103 zs41 (j := n) (by omega) (by omega) ?_
              refine z_il3 eX0_readStep_104 ?_
              refine z_ieq eX0_readStep_105 rfl (fun c105 => ?_) (fun c105 => ?_)
              · exact absurd c105 (by decide)
              · refine z_al0 eX0_readStep_108 ?_
                refine z_ga eX0_readStep_109 fX0_32 zs40 (t := 47) rfl ?_
                refine z_al0 eX0_readStep_112 ?_
                refine z_gi eX0_readStep_113 fX0_52 zs40 ?_
                rw [zup_off (by decide), zup_ne (by decide), zup_ne (by decide), i1.2.2.2]
                refine z_il4 eX0_readStep_116 ?_
                refine zs_iN eX0_readStep_118 zs47 (j := stk.length) (by omega) (by omega) ?_
                refine z_al0 eX0_readStep_119 ?_
                refine z_dup eX0_readStep_120 zn2 ?_
                refine z_gi eX0_readStep_121 fX0_52 zs40 ?_
                rw [zup_off (by decide), zup_off (by decide), zup_ne (by decide), zup_ne (by decide), i1.2.2.2]
                refine z_ki eX0_readStep_124 ?_
                refine z_iaddN eX0_readStep_125 (by omega) (by omega) ?_
                refine z_pi eX0_readStep_126 pX0_52 zs40 ?_
                have S6 : xTs 40 47 h0 B L (zup (zup (zup (zup (zup h 40 0 ((n : Int) + 1)) 40 1 ((s : Int) + 1)) 41 n (kdS B L q)) 47 stk.length (n : Int)) 40 10 ((stk.length : Int) + 1)) := ((((S.up (c := 40) (by decide) (by decide) _ _).up (c := 40) (by decide) (by decide) _ _).up (c := 41) (by decide) (by decide) _ _).up (c := 47) (by decide) (by decide) _ _).up (c := 40) (by decide) (by decide) _ _
                have e36 : (zup (zup (zup (zup (zup h 40 0 ((n : Int) + 1)) 40 1 ((s : Int) + 1)) 41 n (kdS B L q)) 47 stk.length (n : Int)) 40 10 ((stk.length : Int) + 1)) 2 3 = ((tkE B L q : Nat) : Int) := by rw [zup_off (by decide), zup_off (by decide), zup_off (by decide), zup_off (by decide), zup_off (by decide)]; exact T.2.2.2.2 (by omega)
                have f0 : (zup (zup (zup (zup (zup h 40 0 ((n : Int) + 1)) 40 1 ((s : Int) + 1)) 41 n (kdS B L q)) 47 stk.length (n : Int)) 40 10 ((stk.length : Int) + 1)) 40 0 = (n : Int) + 1 := by rw [zup_ne (by decide), zup_off (by decide), zup_off (by decide), zup_ne (by decide), zup_at]
                have f1 : (zup (zup (zup (zup (zup h 40 0 ((n : Int) + 1)) 40 1 ((s : Int) + 1)) 41 n (kdS B L q)) 47 stk.length (n : Int)) 40 10 ((stk.length : Int) + 1)) 40 1 = (s : Int) + 1 := by rw [zup_ne (by decide), zup_off (by decide), zup_off (by decide), zup_at]
                have f2 : (zup (zup (zup (zup (zup h 40 0 ((n : Int) + 1)) 40 1 ((s : Int) + 1)) 41 n (kdS B L q)) 47 stk.length (n : Int)) 40 10 ((stk.length : Int) + 1)) 40 2 = sp := by rw [zup_ne (by decide), zup_off (by decide), zup_off (by decide), zup_ne (by decide), zup_ne (by decide)]; exact i1.2.2.1
                have f10 : (zup (zup (zup (zup (zup h 40 0 ((n : Int) + 1)) 40 1 ((s : Int) + 1)) 41 n (kdS B L q)) 47 stk.length (n : Int)) 40 10 ((stk.length : Int) + 1)) 40 10 = (if 5 ≤ kdS B L q then (stk.length : Int) + 1 else (stk.length : Int)) := by rw [if_pos (by omega), zup_at]
                have f41 : (zup (zup (zup (zup (zup h 40 0 ((n : Int) + 1)) 40 1 ((s : Int) + 1)) 41 n (kdS B L q)) 47 stk.length (n : Int)) 40 10 ((stk.length : Int) + 1)) 41 n = kdS B L q := by rw [zup_off (by decide), zup_off (by decide), zup_at]
                have fx : ∀ c i : Nat, 41 ≤ c ∧ c ≤ 46 → i < n → (zup (zup (zup (zup (zup h 40 0 ((n : Int) + 1)) 40 1 ((s : Int) + 1)) 41 n (kdS B L q)) 47 stk.length (n : Int)) 40 10 ((stk.length : Int) + 1)) c i = h c i := fun c i hc hi => by rw [zup_off (by omega), zup_off (by omega), zup_ne (by omega), zup_off (by omega), zup_off (by omega)]
                have f47 : ∀ i : Nat, i < stk.length → (zup (zup (zup (zup (zup h 40 0 ((n : Int) + 1)) 40 1 ((s : Int) + 1)) 41 n (kdS B L q)) 47 stk.length (n : Int)) 40 10 ((stk.length : Int) + 1)) 47 i = h 47 i := fun i hi => by rw [zup_off (by decide), zup_ne (by omega), zup_off (by decide), zup_off (by decide), zup_off (by decide)]
                have f47b : 5 ≤ kdS B L q → (zup (zup (zup (zup (zup h 40 0 ((n : Int) + 1)) 40 1 ((s : Int) + 1)) 41 n (kdS B L q)) 47 stk.length (n : Int)) 40 10 ((stk.length : Int) + 1)) 47 stk.length = (n : Int) := fun z => by rw [zup_off (by decide), zup_at]
                generalize (zup (zup (zup (zup (zup h 40 0 ((n : Int) + 1)) 40 1 ((s : Int) + 1)) 41 n (kdS B L q)) 47 stk.length (n : Int)) 40 10 ((stk.length : Int) + 1)) = hE at S6 e36 f0 f1 f2 f10 f41 fx f47 f47b ⊢
                have eF : seF B L q s n stk sp A = hdF B L (kdS B L q) s n stk sp (arF B L s (tkE B L q) (kdS B L q) (zup A 126 s (kdS B L q))) := by
                  unfold seF
                  rw [if_neg (by omega), if_neg (fun y => by omega), if_neg (by omega)]
                rw [eF]
                refine z_al0 eX0_readStep_129 ?_
                refine z_al1 eX0_readStep_130 ?_
                refine z_il2 eX0_readStep_131 ?_
                refine z_il4 eX0_readStep_132 ?_
                refine zc_vi3 eX0_readStep_134 lX0_88 tX0_readArguments zs40 (by decide) (Nat.le_of_ble_eq_true rfl) (x_args h0 hE B L (tkE B L q) n s (zup A 126 s (kdS B L q)) S6 e36 kb.2.2.1 (by omega) (kdS B L q) (by omega)) ?_
                rintro v1 g1 R1 -
                refine z_ieq eX0_readStep_137 rfl (fun c137 => ?_) (fun c137 => ?_)
                · refine z_ki eX0_readStep_151 ?_
                  refine ze_z eX0_readStep_152 rfl (by first | exact Or.inl rfl | exact Or.inr rfl) ?_
                  generalize arF B L s (tkE B L q) (kdS B L q) (zup A 126 s (kdS B L q)) = R at R1 ⊢
                  rcases R with e | r
                  · exact ⟨rfl, R1.2⟩
                  · exact absurd (R1.1.trans c137) (by decide)
                · generalize eA : arF B L s (tkE B L q) (kdS B L q) (zup A 126 s (kdS B L q)) = R at R1 ⊢
                  obtain ⟨r, rfl⟩ : ∃ r, R = .inr r := by
                    rcases R with e | r
                    · exact absurd R1.1.symm c137
                    · exact ⟨r, rfl⟩
                  obtain ⟨-, r2, r3, r4, r5, r6, r7, r8, r9⟩ := R1
                  refine z_al1 eX0_readStep_140 ?_
                  refine zc_vi0 eX0_readStep_141 lX0_81 tX9_expectSign zs2 (by decide) (Nat.le_of_ble_eq_true rfl) (x_expSign _ B L r5.2.1 _ r3 r4) ?_
                  rintro v2 g8 ⟨g9, F9, T9, p1, p2⟩ -
                  refine z_ieq eX0_readStep_144 rfl (fun c144 => ?_) (fun c144 => ?_)
                  · refine z_ki eX0_readStep_151 ?_
                    refine ze_z eX0_readStep_152 rfl (by first | exact Or.inl rfl | exact Or.inr rfl) ?_
                    have z : ¬ sgK B L r.1 = 0 := fun z => by have := (p1 z).1; omega
                    obtain ⟨-, rfl⟩ := p2 z
                    have e : hdF B L (kdS B L q) s n stk sp (.inr r) = .inl (sgK B L r.1, tkA B L r.1) := if_neg z
                    rw [e]
                    exact ⟨rfl, (r5.fr F9).bad _ _⟩
                  · refine z_ki eX0_readStep_147 ?_
                    refine z_goto eX0_readStep_148 rfl ?_
                    refine ze_z eX0_readStep_152 rfl (by first | exact Or.inl rfl | exact Or.inr rfl) ?_
                    have z : sgK B L r.1 = 0 := by
                      by_cases z : sgK B L r.1 = 0
                      · exact z
                      · exact absurd (p2 z).1.symm c144
                    obtain ⟨-, rfl⟩ := p1 z
                    have k3 := sgK_b.2.1 z
                    have kr := tk_b (B := B) r3
                    have k4 := kb.2.2.2.1 (by omega)
                    have e : hdF B L (kdS B L q) s n stk sp (.inr r) = .inr (tkE B L r.1, s + 1, n + 1, if 5 ≤ kdS B L q then (n, s) :: stk else stk, if kdS B L q = 4 then 1 else sp, if 5 ≤ kdS B L q then r.2 else zup r.2 129 s ((s : Int) + 1)) := if_pos z
                    rw [e]
                    refine ⟨rfl, by show q < tkE B L r.1; omega, kr.2.2.1, T9.2.2.2.2 (by omega), r5.fr F9, ?_⟩
                    have q40 : ∀ i : Nat, g9 40 i = (if kdS B L q = 4 then zup hE 40 2 1 else hE) 40 i := fun i => by rw [F9.1 40 (by decide), r6 40 (by decide) (by omega)]
                    have qE : ∀ c i : Nat, ¬ (c = 40 ∧ i = 2) → (if kdS B L q = 4 then zup hE 40 2 1 else hE) c i = hE c i := fun c i hi => by
                      split
                      · rw [zup_ne hi]
                      · rfl
                    have q2 : (if kdS B L q = 4 then zup hE 40 2 1 else hE) 40 2 = (if kdS B L q = 4 then 1 else sp) := by
                      split
                      · rw [zup_at]
                      · exact f2
                    have q4 : ∀ c i : Nat, 41 ≤ c ∧ c ≤ 47 → ¬ i = n → g9 c i = hE c i := fun c i hc hi => by
                      rw [F9.1 c (by omega), ← qE c i (by omega)]
                      by_cases y : 42 ≤ c ∧ c ≤ 45
                      · exact r7 c i y hi
                      · rw [r6 c (by omega) y]
                    refine aI_st I (by omega) (by omega) (fun y => by omega) ⟨?_, ?_, ?_, ?_⟩ ?_ (fun c i hc hi => ?_) (fun i hi => ?_) (fun y => ?_) (fun c i hi => ?_) ?_ ?_
                    · rw [q40, qE _ _ (by decide)]; exact f0
                    · rw [q40, qE _ _ (by decide)]; exact f1
                    · rw [q40]; exact q2
                    · rw [q40, qE _ _ (by decide)]; exact f10
                    · rw [F9.1 41 (by decide), r6 41 (by decide) (by omega), qE _ _ (by omega)]; exact f41
                    · rw [q4 c i (by omega) (by omega)]; exact fx c i hc hi
                    · rw [F9.1 47 (by decide), r6 47 (by decide) (by omega), qE _ _ (by omega)]; exact f47 i hi
                    · rw [F9.1 47 (by decide), r6 47 (by decide) (by omega), qE _ _ (by omega)]; exact f47b y
                    · rw [r8 c i (by omega), zup_ne (by omega)]
                    · rw [r8 126 s (by omega), zup_at]
                    · have ag := r9
                      unfold agI at ag ⊢
                      rw [F9.1 42 (by decide), F9.1 43 (by decide), F9.1 44 (by decide), F9.1 45 (by decide)]
                      exact ag
            · omega
        · refine z_al1 eX0_readStep_39 ?_
          refine z_ki eX0_readStep_40 ?_
          refine zc_vi1 eX0_readStep_41 lX0_64 tX9_refuse zs2 (by decide) (Nat.le_of_ble_eq_true rfl) (x_ref T _) ?_
          rintro _ _ ⟨rfl, rfl⟩ -
          refine ze_z eX0_readStep_44 rfl (by first | exact Or.inl rfl | exact Or.inr rfl) ?_
          have e : seF B L q s n stk sp A = .inl (5, tkA B L q) := by unfold seF; rw [if_neg (by omega), if_pos ⟨by omega, by omega⟩]
          rw [e, fK_1 (by omega)]
          exact ⟨rfl, S.bad _ _⟩
  · refine z_al1 eX0_readStep_10 ?_
    refine z_ki eX0_readStep_11 ?_
    refine zc_vi1 eX0_readStep_12 lX0_64 tX9_refuse zs2 (by decide) (Nat.le_of_ble_eq_true rfl) (x_ref T _) ?_
    rintro _ _ ⟨rfl, rfl⟩ -
    refine ze_z eX0_readStep_15 rfl (by first | exact Or.inl rfl | exact Or.inr rfl) ?_
    have e : seF B L q s n stk sp A = .inl (fK (tkK B L q) 2, tkA B L q) := if_pos (by omega)
    rw [e]
    exact ⟨rfl, S.bad _ _⟩
