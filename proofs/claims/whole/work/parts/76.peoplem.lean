-- people: the reference's search (written by wip/tools/specV1.py)
def fe1 (D : Nat → Int) (kd : Int) (s : Nat) (x : Int) : Prop := (0 < x → (kd = 4 ∨ kd = 12) ∧ x ≤ D (40 + s)) ∧ (x < 0 → (kd = 8 ∨ kd = 12) ∧ -x ≤ D (20 + s))
def wR (D : Nat → Int) (q : Nat → Int) : Nat → Int := fun s => D (20 + s) + q s
def aimR (D : Nat → Int) (a wn : Int) (q : Nat → Int) : Prop := aimQ (winW D (wR D q) (D 2).toNat) a wn
def uR (D : Nat → Int) (a wn kd most : Int) (q : Nat → Int) : Prop := (∀ s : Nat, s < nS D → fe1 D kd s (q s)) ∧ totR q (nS D) ≤ most ∧ aimR D a wn q
theorem aimR_cg {D : Nat → Int} {a wn : Int} {q p : Nat → Int} (h : agr (nS D) q p) : aimR D a wn q ↔ aimR D a wn p := by
  unfold aimR
  rw [winW_congr (w := wR D q) (w' := wR D p) (fun s hs => by unfold wR; rw [h s hs])]
theorem wR_b {D : Nat → Int} (hb : dB D) {kd : Int} {q : Nat → Int} (h : ∀ s : Nat, s < nS D → fe1 D kd s (q s)) : vB D (wR D q) := fun s hs => by
  have h1 := hb.2.2.2.2.1 s hs
  have h2 := h s hs
  unfold fe1 at h2
  unfold wR
  by_cases z : 0 < q s
  · have := (h2.1 z).2; omega
  · by_cases y : q s < 0
    · have := (h2.2 y).2; omega
    · omega
def PkM (D : Nat → Int) (a wn kd most : Int) (s : Nat) (p : Nat → Int) (k : Nat) (q : Nat → Int) : Prop := uR D a wn kd most q ∧ (ltx s q p ∨ (agr s q p ∧ rk (q s) < k))
def P0M (D : Nat → Int) (a wn kd most : Int) (s : Nat) (p : Nat → Int) (q : Nat → Int) : Prop := uR D a wn kd most q ∧ ltx s q p
def P1M (D : Nat → Int) (a wn kd most : Int) (s : Nat) (p : Nat → Int) (q : Nat → Int) : Prop := uR D a wn kd most q ∧ (ltx s q p ∨ agr s q p)
theorem P0M_fu {D : Nat → Int} {a wn kd most : Int} {s : Nat} {p : Nat → Int} {y : Int} (q : Nat → Int) : P0M D a wn kd most (s + 1) (fu p s y) q ↔ PkM D a wn kd most s p (rk y) q := by
  unfold P0M PkM
  rw [ltx_s, ltx_fu, agr_fu, fu_at]
theorem P1M_fu {D : Nat → Int} {a wn kd most : Int} {s : Nat} {p : Nat → Int} {y : Int} (q : Nat → Int) : PkM D a wn kd most s p (rk y + 1) q ↔ P1M D a wn kd most (s + 1) (fu p s y) q := by
  unfold P1M PkM
  rw [ltx_s, ltx_fu, agr_s, agr_fu, fu_at]
  constructor
  · rintro ⟨u, h | ⟨h1, h2⟩⟩
    · exact ⟨u, Or.inl (Or.inl h)⟩
    · by_cases e : rk (q s) = rk y
      · exact ⟨u, Or.inr ⟨h1, rk_inj e⟩⟩
      · exact ⟨u, Or.inl (Or.inr ⟨h1, by omega⟩)⟩
  · rintro ⟨u, (h | ⟨h1, h2⟩) | ⟨h1, h2⟩⟩
    · exact ⟨u, Or.inl h⟩
    · exact ⟨u, Or.inr ⟨h1, by omega⟩⟩
    · exact ⟨u, Or.inr ⟨h1, by rw [h2]; omega⟩⟩
theorem nb_kle {ch bm bc m c : Int} (h : ¬ bet ch bm bc m c) : 0 ≤ bm ∧ kle ch bm bc m c := by unfold bet at h; unfold kle; omega
theorem bet_klt {ch bm bc m c : Int} (h : bet ch bm bc m c) : bm < 0 ∨ klt ch m c bm bc := by unfold bet at h; unfold klt; omega
def byK (k : Nat) : Int := if k % 2 = 1 then (((k + 1) / 2 : Nat) : Int) else -((k / 2 : Nat) : Int)
theorem rk_by (k : Nat) : rk (byK k) = k := by unfold byK rk; split <;> split <;> omega
theorem zrem2b : ∀ t : Nat, t < 12 → zrem (t : Int) 2 = ((t % 2 : Nat) : Int) := by decide +kernel
theorem zdiv2b : ∀ t : Nat, t < 13 → zdiv (t : Int) 2 = ((t / 2 : Nat) : Int) := by decide +kernel
theorem kd48 {kd : Int} (h : kd = 4 ∨ kd = 8 ∨ kd = 12) : (zand kd 4 = 0 ↔ kd = 8) ∧ (zand kd 8 = 0 ↔ kd = 4) := by
  have e : zand 4 4 = 4 ∧ zand 8 4 = 0 ∧ zand 12 4 = 4 ∧ zand 4 8 = 0 ∧ zand 8 8 = 8 ∧ zand 12 8 = 8 := by decide
  obtain ⟨e1, e2, e3, e4, e5, e6⟩ := e
  rcases h with rfl | rfl | rfl
  · rw [e1, e4]; omega
  · rw [e2, e5]; omega
  · rw [e3, e6]; omega
theorem tot_fu (p : Nat → Int) (s : Nat) (y : Int) : totR (fu p s y) (s + 1) = totR p s + absI y := by
  rw [totR_s, fu_at, totR_cg (q := fu p s y) (p := p) (n := s) (fun i hi => if_neg (by omega))]
theorem cst_fu (D p : Nat → Int) (s : Nat) (y : Int) : cstR D (fu p s y) (s + 1) = cstR D p s + absI y * D (60 + s) := by
  rw [cstR_s, fu_at, cstR_cg (q := fu p s y) (p := p) (n := s) (fun i hi => if_neg (by omega))]
def mP (D : Nat → Int) (a wn kd most ch : Int) (s s2 : Nat) (p : Nat → Int) (g : zHp) : Prop := g 122 = D ∧ (g 117 58 = a ∧ g 117 56 = wn ∧ g 117 57 = ch ∧ g 117 59 = kd ∧ g 117 60 = most) ∧ (∀ j : Nat, j < s → g 136 j = p j ∧ g 124 j = D (20 + j) + p j) ∧ (∀ j : Nat, s2 ≤ j → j < nS D → g 124 j = D (20 + j))
def pF (D : Nat → Int) (kd : Int) (s : Nat) (p : Nat → Int) : Prop := ∀ j : Nat, j < s → fe1 D kd j (p j)
theorem skip1 {D : Nat → Int} (hb : dB D) {a wn kd most ch bm bc : Int} {s : Nat} {p br : Nat → Int} (hs : s ≤ nS D) (H : isB D (nS D) ch (P0M D a wn kd most s p) bm bc br) (hn : ¬ bet ch bm bc (totR p s) (cstR D p s)) : isB D (nS D) ch (P1M D a wn kd most s p) bm bc br := by
  obtain ⟨h0, hk⟩ := nb_kle hn
  refine isB_skip H (fun q hq => ⟨hq.1, Or.inl hq.2⟩) (fun q hq => ?_)
  rcases hq.2 with z | z
  · exact Or.inl ⟨hq.1, z⟩
  · refine Or.inr ⟨h0, kle_tr hk ?_ ?_, fun b hb2 _ _ => ltx_up hs hb2.2 z⟩
    · rw [← totR_cg z]; exact totR_mono q hs
    · rw [← cstR_cg z]; exact cstR_mono hb q (Nat.le_refl _) hs
theorem r_mp_c (K : Nat) (h : zHp) (p : Nat → Int) (s : Nat) (hs : s ≤ 20) (x2 x3 : Int) (hr : ∀ j : Nat, j < s → h 136 j = p j) (Q : zHp → Prop) (hQ : ∀ g, zFr 137 h g → (∀ j : Nat, j < s → g 137 j = p j) → Q g) : ∀ (r k : Nat) (g : zHp), k + r = s → zFr 137 h g → (∀ j : Nat, j < k → g 137 j = p j) → zRW mX12_movePeople K (0, 0) 51 [zA 117, zI s, zI x2, zI x3, zI k, zU] [] 143 g (zqv Q) := by
  intro r
  induction r using Nat.strongRecOn with
  | ind r ih =>
    intro k g hk hfr hj
    refine z_il4 eX12_movePeople_51 ?_
    refine z_il1 eX12_movePeople_53 ?_
    refine z_cge eX12_movePeople_54 rfl (fun c54 => ?_) (fun c54 => ?_)
    · refine ze_v eX12_movePeople_77 rfl ?_
      have e : k = s := by omega
      subst e
      exact hQ g hfr hj
    · refine z_al0 eX12_movePeople_57 ?_
      refine z_ga eX12_movePeople_58 fX12_80 zs117 (t := 137) rfl ?_
      refine z_il4 eX12_movePeople_61 ?_
      refine z_al0 eX12_movePeople_63 ?_
      refine z_ga eX12_movePeople_64 fX12_77 zs117 (t := 136) rfl ?_
      refine z_il4 eX12_movePeople_67 ?_
      refine zr_iN eX12_movePeople_69 zs136 (j := k) (by omega) (by omega) ?_
      rw [show g 136 k = p k by rw [hfr 136 (by decide)]; exact hr k (by omega)]
      refine zs_iN eX12_movePeople_70 zs137 (j := k) (by omega) (by omega) ?_
      refine z_incN4 eX12_movePeople_71 zn0 (by omega) (by omega) ?_
      refine z_goto eX12_movePeople_74 rfl ?_
      refine ih (r - 1) (by omega) (k + 1) _ (by omega) (hfr.up _ _) (fun j hj2 => ?_)
      by_cases e : j = k
      · subst e; exact zup_at _ _ _ _
      · rw [zup_ne (by omega)]; exact hj j (by omega)
theorem r_mp0 (D : Nat → Int) (hb : dB D) (hst : D 2 < ((2 ^ nN D : Nat) : Int)) (h12 : nS D ≤ 12) (a wn kd most ch : Int) (hkd : kd = 4 ∨ kd = 8 ∨ kd = 12) (hmo : 0 ≤ most ∧ most ≤ 5) (s : Nat) (p : Nat → Int) (h : zHp) (hs : s + 0 = nS D) (Hm : mP D a wn kd most ch s s p h) (hf : pF D kd s p) (ht : totR p s ≤ most) (HB : isB D (nS D) ch (P0M D a wn kd most s p) (h 117 46) (h 117 47) (h 137)) : zCv mX12_movePeople (8 + 0) [zA 117, zI s, zI (totR p s), zI (cstR D p s)] h (fun h' => mP D a wn kd most ch s s p h' ∧ isB D (nS D) ch (P1M D a wn kd most s p) (h' 117 46) (h' 117 47) (h' 137) ∧ zMf h h') := by
  refine z_enter [zA 117, zI s, zI (totR p s), zI (cstR D p s), zU, zU] (by decide +kernel) (Nat.le_of_ble_eq_true rfl) rfl (fun hra hrg => ?_)
  obtain ⟨m1, ⟨m2, m3, m4, m5, m6⟩, m7, m8⟩ := id Hm
  have hS := nS_eq hb
  have hb2 := hb.2.2.1
  have d1 : h 122 1 = (nS D : Int) := by rw [m1]; exact hS
  have htn := totR_nn p s
  have es : s = nS D := by omega
  have hvb := wR_b hb (q := p) (fun j hj => hf j (by omega))
  have hvb2 : vB D (h 124) := vB_congr (fun j hj => (show wR D p j = h 124 j from (m7 j (by omega)).2.symm)) hvb
  have hsm : sumN (h 124) (nS D) = sumN (wR D p) (nS D) := sumN_congr _ (fun j hj => (m7 j (by omega)).2)
  refine z_al0 eX12_movePeople_0 ?_
  refine z_il2 eX12_movePeople_1 ?_
  refine z_il3 eX12_movePeople_2 ?_
  refine zc_vi2 eX12_movePeople_3 lX12_372 tX12_isBetter zs117 (by omega) (Nat.le_of_ble_eq_true rfl) (r_isBetter h ch m4 _ _) ?_
  rintro _ _ ⟨rfl, rfl⟩ -
  refine z_ine eX12_movePeople_6 rfl (fun c6 => ?_) (fun c6 => ?_)
  · have z6 := iteT c6
    replace z6 : betD _ _ _ _ _ := z6
    clear c6
    refine z_il1 eX12_movePeople_10 ?_
    refine z_al0 eX12_movePeople_11 ?_
    refine z_ga eX12_movePeople_12 fX12_35 zs117 (t := 122) rfl ?_
    refine z_ki eX12_movePeople_15 ?_
    refine zr_iN eX12_movePeople_16 zs122 (j := 1) (by omega) (by omega) ?_
    refine z_cne eX12_movePeople_17 rfl (fun c17 => ?_) (fun c17 => ?_)
    · exfalso; omega
    · refine z_al0 eX12_movePeople_20 ?_
      refine zc_vv0 eX12_movePeople_21 lX12_348 tX12_sumVoters zs117 (by omega) (Nat.le_of_ble_eq_true rfl) (r_sumVoters h D (h 124) m1 rfl hb hvb2) ?_
      rintro _ rfl
      refine z_al0 eX12_movePeople_24 ?_
      refine z_al0 eX12_movePeople_25 ?_
      refine z_ga eX12_movePeople_26 fX12_35 zs117 (t := 122) rfl ?_
      refine z_ki eX12_movePeople_29 ?_
      refine zr_iN eX12_movePeople_30 zs122 (j := 2) (by omega) (by omega) ?_
      rw [show zup h 117 25 (sumN (h 124) (nS D)) 122 2 = (((D 2).toNat : Nat) : Int) by rw [zup_off (by decide), m1]; exact stN hb]
      refine zc_vi1 eX12_movePeople_31 lX12_375 tX12_isAim zs117 (by omega) (Nat.le_of_ble_eq_true rfl) (r_isAim _ D (wR D p) ⟨(zup_off (by decide)).trans m1, fun j hj => by rw [zup_off (by decide)]; exact (m7 j (by omega)).2, by rw [zup_at]; exact hsm⟩ hb hvb _ (stL hb hst)) ?_
      rw [zup_ne (show ¬ (117 = 117 ∧ 58 = 25) by decide), zup_ne (show ¬ (117 = 117 ∧ 56 = 25) by decide), m2, m3]
      rintro _ g ⟨rfl, hfr⟩ -
      have hg : zMf h g := (zMf.rf.up (by omega) (by omega) rfl).fr hfr (by decide) (fun _ => rfl)
      have f117 : ∀ i, ¬ i = 25 → g 117 i = h 117 i := fun i hi => by rw [hfr 117 (by decide), zup_ne (by omega)]
      have fo : ∀ c, ¬ c = 125 → ¬ c = 117 → g c = h c := fun c c1 c2 => by rw [hfr c c1, zup_off c2]
      have Hmg : mP D a wn kd most ch s s p g := ⟨by rw [fo 122 (by decide) (by decide)]; exact m1, by rw [f117 58 (by decide), f117 56 (by decide), f117 57 (by decide), f117 59 (by decide), f117 60 (by decide)]; exact ⟨m2, m3, m4, m5, m6⟩, fun j hj => by rw [fo 136 (by decide) (by decide), fo 124 (by decide) (by decide)]; exact m7 j hj, fun j j1 j2 => by omega⟩
      refine z_ine eX12_movePeople_34 rfl (fun c34 => ?_) (fun c34 => ?_)
      · have z34 := iteT c34
        refine z_al0 eX12_movePeople_38 ?_
        refine z_il2 eX12_movePeople_39 ?_
        refine z_pi eX12_movePeople_40 pX12_354 zs117 ?_
        refine z_al0 eX12_movePeople_43 ?_
        refine z_il3 eX12_movePeople_44 ?_
        refine z_pi eX12_movePeople_45 pX12_360 zs117 ?_
        refine z_ki eX12_movePeople_48 ?_
        refine z_is4 eX12_movePeople_49 zn0 ?_
        refine r_mp_c _ _ p s (by omega) _ _ (fun j hj => by rw [zup_off (by decide), zup_off (by decide)]; exact (Hmg.2.2.1 j hj).1) _ (fun g3 hfr3 hj3 => ?_) s 0 _ (Nat.zero_add _) zFr.rf (fun j hj => by omega)
        obtain ⟨n1, ⟨n2, n3, n4, n5, n6⟩, n7, n8⟩ := Hmg
        refine ⟨⟨?_, ?_, ?_, fun j j1 j2 => by omega⟩, ?_, ((hg.up (by omega) (by omega) rfl).up (by omega) (by omega) rfl).fr hfr3 (by decide) (fun _ => rfl)⟩
        · rw [hfr3 122 (by decide), zup_off (by decide), zup_off (by decide)]; exact n1
        · rw [hfr3 117 (by decide), zup_ne (by decide), zup_ne (by decide), zup_ne (by decide), zup_ne (by decide), zup_ne (by decide), zup_ne (by decide), zup_ne (by decide), zup_ne (by decide), zup_ne (by decide), zup_ne (by decide)]
          exact ⟨n2, n3, n4, n5, n6⟩
        · intro j hj
          rw [hfr3 136 (by decide), hfr3 124 (by decide), zup_off (by decide), zup_off (by decide), zup_off (by decide), zup_off (by decide)]
          exact n7 j hj
        · rw [hfr3 117 (by decide), zup_ne (show ¬ (117 = 117 ∧ 46 = 47) by decide), zup_at, zup_at, es]
          refine isB_cg (br := p) (fun i hi => hj3 i (by omega)) (isB_take HB (p := p) ⟨⟨fun j hj => hf j (by omega), by rw [← es]; exact ht, z34⟩, Or.inr (fun i hi => rfl)⟩ (fun q hq => ?_) ?_)
          · rcases hq.2 with z | z
            · exact Or.inl ⟨hq.1, by rw [← es] at z; exact z⟩
            · exact Or.inr (fun i hi => (z i (by omega)).symm)
          · rw [← es]; exact bet_klt z6
      · have z34 := iteF c34
        refine ze_v eX12_movePeople_37 rfl ?_
        refine ⟨Hmg, ?_, hg⟩
        rw [f117 46 (by decide), f117 47 (by decide), fo 137 (by decide) (by decide)]
        refine isB_skip HB (fun q hq => ⟨hq.1, Or.inl hq.2⟩) (fun q hq => Or.inl ⟨hq.1, ?_⟩)
        rcases hq.2 with z | z
        · exact z
        · exact absurd ((aimR_cg (by rw [← es]; exact z)).mp hq.1.2.2) z34
  · have z6 := iteF c6
    refine ze_v eX12_movePeople_9 rfl ?_
    exact ⟨Hm, skip1 hb (by omega) HB z6, zMf.rf⟩
theorem r_mp_l (D : Nat → Int) (hb : dB D) (hst : D 2 < ((2 ^ nN D : Nat) : Int)) (h12 : nS D ≤ 12) (a wn kd most ch : Int) (hkd : kd = 4 ∨ kd = 8 ∨ kd = 12) (hmo : 0 ≤ most ∧ most ≤ 5) (r : Nat) (IH : ∀ (s : Nat) (p : Nat → Int) (h : zHp), s + r = nS D → mP D a wn kd most ch s s p h → pF D kd s p → totR p s ≤ most → isB D (nS D) ch (P0M D a wn kd most s p) (h 117 46) (h 117 47) (h 137) → zCv mX12_movePeople (8 + r) [zA 117, zI s, zI (totR p s), zI (cstR D p s)] h (fun h' => mP D a wn kd most ch s s p h' ∧ isB D (nS D) ch (P1M D a wn kd most s p) (h' 117 46) (h' 117 47) (h' 137) ∧ zMf h h')) (s : Nat) (p : Nat → Int) (h : zHp) (hs : s + (r + 1) = nS D) (hf : pF D kd s p) (ht : totR p s ≤ most) (co : Int) (hco : co = cstR D p s) : ∀ (q k : Nat) (g : zHp), (k : Int) + q = 2 * (most - totR p s) + 1 → mP D a wn kd most ch s (s + 1) p g → zMf h g → isB D (nS D) ch (PkM D a wn kd most s p k) (g 117 46) (g 117 47) (g 137) → zRW mX12_movePeople (8 + (r + 1)) (0, 0) 81 [zA 117, zI s, zI (totR p s), zI co, zI k, zU] [] 143 g (zqv (fun h' => mP D a wn kd most ch s s p h' ∧ isB D (nS D) ch (P1M D a wn kd most s p) (h' 117 46) (h' 117 47) (h' 137) ∧ zMf h h')) := by
  subst hco
  have htn := totR_nn p s
  have hcb := cstR_b hb p s (by omega)
  have hcn : 0 ≤ cstR D p s := cstR_mono hb p (m := 0) (by omega) (by omega)
  have hbs := hb.2.2.2.2.1 s (by omega)
  have kk := kd48 hkd
  intro q
  induction q using Nat.strongRecOn with
  | ind q ih =>
    intro k g hk Hg hmf HBg
    obtain ⟨m1, ⟨m2, m3, m4, m5, m6⟩, m7, m8⟩ := id Hg
    have d40 : g 122 (40 + s) = D (40 + s) := by rw [m1]
    have d20 : g 122 (20 + s) = D (20 + s) := by rw [m1]
    have d60 : g 122 (60 + s) = D (60 + s) := by rw [m1]
    refine z_il4 eX12_movePeople_81 ?_
    refine z_ki eX12_movePeople_83 ?_
    refine z_al0 eX12_movePeople_84 ?_
    refine z_gi eX12_movePeople_85 fX12_381 zs117 ?_
    rw [m6]
    refine z_il2 eX12_movePeople_88 ?_
    refine z_isubN eX12_movePeople_89 (by omega) (by omega) ?_
    refine z_imulN eX12_movePeople_90 (by omega) (by omega) ?_
    refine z_cgt eX12_movePeople_91 rfl (fun c91 => ?_) (fun c91 => ?_)
    · refine z_al0 eX12_movePeople_245 ?_
      refine z_ga eX12_movePeople_246 fX12_77 zs117 (t := 136) rfl ?_
      refine z_il1 eX12_movePeople_249 ?_
      refine z_ki eX12_movePeople_250 ?_
      refine zs_iN eX12_movePeople_251 zs136 (j := s) (by omega) (by omega) ?_
      refine z_al0 eX12_movePeople_252 ?_
      refine z_ga eX12_movePeople_253 fX12_41 zs117 (t := 124) rfl ?_
      refine z_il1 eX12_movePeople_256 ?_
      refine z_al0 eX12_movePeople_257 ?_
      refine z_ga eX12_movePeople_258 fX12_35 zs117 (t := 122) rfl ?_
      refine z_ki eX12_movePeople_261 ?_
      refine z_il1 eX12_movePeople_263 ?_
      refine z_iaddN eX12_movePeople_264 (by omega) (by omega) ?_
      refine zr_iN eX12_movePeople_265 zs122 (j := 20 + s) (by omega) (by omega) ?_
      rw [zup_off (by decide), d20]
      refine zs_iN eX12_movePeople_266 zs124 (j := s) (by omega) (by omega) ?_
      refine ze_v eX12_movePeople_267 rfl ?_
      refine ⟨⟨?_, ?_, fun j hj => ?_, fun j j1 j2 => ?_⟩, ?_, (hmf.up (by omega) (by omega) rfl).up (by omega) (by omega) rfl⟩
      · rw [zup_off (by decide), zup_off (by decide)]; exact m1
      · rw [zup_off (by decide), zup_off (by decide)]; exact ⟨m2, m3, m4, m5, m6⟩
      · rw [zup_off (show ¬ 136 = 124 by decide), zup_ne (by omega), zup_ne (by omega), zup_off (by decide)]; exact m7 j hj
      · by_cases e : j = s
        · subst e; exact zup_at _ _ _ _
        · rw [zup_ne (by omega), zup_off (by decide)]; exact m8 j (by omega) j2
      · rw [zup_off (by decide), zup_off (by decide), zup_off (by decide), zup_off (by decide)]
        refine isB_iff (fun z => ⟨fun hz => ⟨hz.1, hz.2.imp id (fun y => ⟨y, ?_⟩)⟩, fun hz => ⟨hz.1, hz.2.imp id (fun y => y.1)⟩⟩) HBg
        have t1 := totR_mono z (show s + 1 ≤ nS D by omega)
        rw [totR_s, totR_cg y] at t1
        have t2 := hz.1.2.1
        have t3 := absI_rk (z s)
        omega
    · refine z_il4 eX12_movePeople_94 ?_
      refine z_ki eX12_movePeople_96 ?_
      refine z_irem eX12_movePeople_97 (by omega) ?_
      rw [zrem2b k (by omega)]
      refine z_ki eX12_movePeople_98 ?_
      refine z_cne eX12_movePeople_99 rfl (fun c99 => ?_) (fun c99 => ?_)
      · refine z_il4 eX12_movePeople_111 ?_
        refine z_ki eX12_movePeople_113 ?_
        refine z_idiv eX12_movePeople_114 (by omega) ?_
        rw [zdiv2b k (by omega)]
        refine z_inegN eX12_movePeople_115 (by omega) ?_
        rw [show -((k / 2 : Nat) : Int) = byK k by unfold byK; rw [if_neg (by omega)]]
        refine z_is5 eX12_movePeople_116 zn0 ?_
        have hab := absI_b (byK k)
        have hrk := absI_rk (byK k)
        rw [rk_by] at hrk
        refine z_il5 eX12_movePeople_118 ?_
        refine z_ile eX12_movePeople_120 rfl (fun c120 => ?_) (fun c120 => ?_)
        · refine z_il5 eX12_movePeople_149 ?_
          refine z_ige eX12_movePeople_151 rfl (fun c151 => ?_) (fun c151 => ?_)
          · have hfe : fe1 D kd s (byK k) := by unfold fe1; exact ⟨fun z => ⟨by omega, by omega⟩, fun z => ⟨by omega, by omega⟩⟩
            have hv1 := Int.mul_nonneg hab.1 hbs.2.2.2.1
            have hv2 := Int.mul_le_mul_of_nonneg_left hbs.2.2.2.2 hab.1
            refine z_al0 eX12_movePeople_182 ?_
            refine z_ga eX12_movePeople_183 fX12_77 zs117 (t := 136) rfl ?_
            refine z_il1 eX12_movePeople_186 ?_
            refine z_il5 eX12_movePeople_187 ?_
            refine zs_iN eX12_movePeople_189 zs136 (j := s) (by omega) (by omega) ?_
            refine z_al0 eX12_movePeople_190 ?_
            refine z_ga eX12_movePeople_191 fX12_41 zs117 (t := 124) rfl ?_
            refine z_il1 eX12_movePeople_194 ?_
            refine z_al0 eX12_movePeople_195 ?_
            refine z_ga eX12_movePeople_196 fX12_35 zs117 (t := 122) rfl ?_
            refine z_ki eX12_movePeople_199 ?_
            refine z_il1 eX12_movePeople_201 ?_
            refine z_iaddN eX12_movePeople_202 (by omega) (by omega) ?_
            refine zr_iN eX12_movePeople_203 zs122 (j := 20 + s) (by omega) (by omega) ?_
            rw [zup_off (by decide), d20]
            refine z_il5 eX12_movePeople_204 ?_
            refine z_iaddN eX12_movePeople_206 (by omega) (by omega) ?_
            refine zs_iN eX12_movePeople_207 zs124 (j := s) (by omega) (by omega) ?_
            have z117 : ∀ i, zup (zup g 136 s (byK k)) 124 s (D (20 + s) + byK k) 117 i = g 117 i := fun i => by rw [zup_off (by decide), zup_off (by decide)]
            have hMn : mP D a wn kd most ch (s + 1) (s + 1) (fu p s (byK k)) (zup (zup g 136 s (byK k)) 124 s (D (20 + s) + byK k)) := by
              refine ⟨by rw [zup_off (by decide), zup_off (by decide)]; exact m1, by rw [z117, z117, z117, z117, z117]; exact ⟨m2, m3, m4, m5, m6⟩, fun j hj => ?_, fun j j1 j2 => by rw [zup_ne (by omega), zup_off (by decide)]; exact m8 j j1 j2⟩
              unfold fu
              by_cases e : j = s
              · subst e
                rw [if_pos rfl, zup_off (by decide), zup_at, zup_at]
                exact ⟨rfl, rfl⟩
              · rw [if_neg e, zup_off (show ¬ 136 = 124 by decide), zup_ne (by omega), zup_ne (by omega), zup_off (by decide)]
                exact m7 j (by omega)
            have hFn : pF D kd (s + 1) (fu p s (byK k)) := fun j hj => by
              unfold fu
              by_cases e : j = s
              · rw [if_pos e, e]; exact hfe
              · rw [if_neg e]; exact hf j (by omega)
            have hBn : isB D (nS D) ch (P0M D a wn kd most (s + 1) (fu p s (byK k))) (zup (zup g 136 s (byK k)) 124 s (D (20 + s) + byK k) 117 46) (zup (zup g 136 s (byK k)) 124 s (D (20 + s) + byK k) 117 47) (zup (zup g 136 s (byK k)) 124 s (D (20 + s) + byK k) 137) := by
              rw [z117, z117, zup_off (show ¬ 137 = 124 by decide), zup_off (show ¬ 137 = 136 by decide)]
              refine isB_iff (fun z => ?_) HBg
              rw [P0M_fu, rk_by]
            refine z_al0 eX12_movePeople_208 ?_
            refine z_il1 eX12_movePeople_209 ?_
            refine z_ki eX12_movePeople_210 ?_
            refine z_iaddN eX12_movePeople_211 (by omega) (by omega) ?_
            refine z_il2 eX12_movePeople_212 ?_
            refine z_il5 eX12_movePeople_213 ?_
            refine z_abs (y := 0) eX12_movePeople_215 lX12_384 (by omega) (Nat.le_of_ble_eq_true rfl) (by omega) ?_
            rw [show (if 0 ≤ byK k then byK k else -byK k) = absI (byK k) from rfl]
            refine z_iaddN eX12_movePeople_218 (by omega) (by omega) ?_
            refine z_il3 eX12_movePeople_219 ?_
            refine z_il5 eX12_movePeople_220 ?_
            refine z_abs (y := 0) eX12_movePeople_222 lX12_384 (by omega) (Nat.le_of_ble_eq_true rfl) (by omega) ?_
            rw [show (if 0 ≤ byK k then byK k else -byK k) = absI (byK k) from rfl]
            refine z_al0 eX12_movePeople_225 ?_
            refine z_ga eX12_movePeople_226 fX12_35 zs117 (t := 122) rfl ?_
            refine z_ki eX12_movePeople_229 ?_
            refine z_il1 eX12_movePeople_231 ?_
            refine z_iaddN eX12_movePeople_232 (by omega) (by omega) ?_
            refine zr_iN eX12_movePeople_233 zs122 (j := 60 + s) (by omega) (by omega) ?_
            rw [zup_off (by decide), zup_off (by decide), d60]
            refine z_imulN eX12_movePeople_234 (by omega) (by omega) ?_
            refine z_iaddN eX12_movePeople_235 (by omega) (by omega) ?_
            rw [show (s : Int) + 1 = ((s + 1 : Nat) : Int) by omega, ← tot_fu, ← cst_fu]
            refine zc_vv3 eX12_movePeople_236 lX12_386 tX12_movePeople zs117 (by omega) (Nat.le_of_ble_eq_true rfl) (IH (s + 1) (fu p s (byK k)) _ (by omega) hMn hFn (by rw [tot_fu]; omega) hBn) ?_
            rintro g2 ⟨Hg2, HB2, hm2⟩
            refine z_incN4 eX12_movePeople_239 zn0 (by omega) (by omega) ?_
            refine z_goto eX12_movePeople_242 rfl ?_
            refine z_fg5 ?_
            obtain ⟨n1, nn, n7, n8⟩ := Hg2
            refine ih (q - 1) (by omega) (k + 1) g2 (by omega) ⟨n1, nn, fun j hj => ?_, fun j j1 j2 => ?_⟩ (((hmf.up (by omega) (by omega) rfl).up (by omega) (by omega) rfl).tr hm2) ?_
            · have := n7 j (by omega)
              rw [show fu p s (byK k) j = p j from if_neg (by omega)] at this
              exact this
            · exact n8 j j1 j2
            · have e := rk_by k
              refine isB_iff (fun z => ?_) HB2
              rw [← P1M_fu, e]
          · refine z_al0 eX12_movePeople_154 ?_
            refine z_gi eX12_movePeople_155 fX12_369 zs117 ?_
            refine z_ki eX12_movePeople_158 ?_
            rw [m5]
            refine z_iand eX12_movePeople_160 ?_
            refine z_ieq eX12_movePeople_161 rfl (fun c161 => ?_) (fun c161 => ?_)
            · refine z_incN4 eX12_movePeople_239 zn0 (by omega) (by omega) ?_
              refine z_goto eX12_movePeople_242 rfl ?_
              refine z_fg5 ?_
              refine ih (q - 1) (by omega) (k + 1) g (by omega) Hg hmf ?_
              refine isB_skip HBg (fun z hz => ⟨hz.1, hz.2.imp id (fun y => ⟨y.1, by omega⟩)⟩) (fun z hz => Or.inl ⟨hz.1, ?_⟩)
              rcases hz.2 with y | ⟨y1, y2⟩
              · exact Or.inl y
              · refine Or.inr ⟨y1, ?_⟩
                by_cases e : rk (z s) = k
                · exfalso
                  have ez : z s = byK k := rk_inj (by rw [e, rk_by])
                  have fz := hz.1.1 s (by omega)
                  rw [ez] at fz
                  unfold fe1 at fz
                  have := (fz.2 (by omega)).1
                  omega
                · omega
            · refine z_il5 eX12_movePeople_164 ?_
              refine z_inegN eX12_movePeople_166 (by omega) ?_
              refine z_al0 eX12_movePeople_167 ?_
              refine z_ga eX12_movePeople_168 fX12_35 zs117 (t := 122) rfl ?_
              refine z_ki eX12_movePeople_171 ?_
              refine z_il1 eX12_movePeople_173 ?_
              refine z_iaddN eX12_movePeople_174 (by omega) (by omega) ?_
              refine zr_iN eX12_movePeople_175 zs122 (j := 20 + s) (by omega) (by omega) ?_
              rw [d20]
              refine z_cle eX12_movePeople_176 rfl (fun c176 => ?_) (fun c176 => ?_)
              · have hfe : fe1 D kd s (byK k) := by unfold fe1; exact ⟨fun z => ⟨by omega, by omega⟩, fun z => ⟨by omega, by omega⟩⟩
                have hv1 := Int.mul_nonneg hab.1 hbs.2.2.2.1
                have hv2 := Int.mul_le_mul_of_nonneg_left hbs.2.2.2.2 hab.1
                refine z_al0 eX12_movePeople_182 ?_
                refine z_ga eX12_movePeople_183 fX12_77 zs117 (t := 136) rfl ?_
                refine z_il1 eX12_movePeople_186 ?_
                refine z_il5 eX12_movePeople_187 ?_
                refine zs_iN eX12_movePeople_189 zs136 (j := s) (by omega) (by omega) ?_
                refine z_al0 eX12_movePeople_190 ?_
                refine z_ga eX12_movePeople_191 fX12_41 zs117 (t := 124) rfl ?_
                refine z_il1 eX12_movePeople_194 ?_
                refine z_al0 eX12_movePeople_195 ?_
                refine z_ga eX12_movePeople_196 fX12_35 zs117 (t := 122) rfl ?_
                refine z_ki eX12_movePeople_199 ?_
                refine z_il1 eX12_movePeople_201 ?_
                refine z_iaddN eX12_movePeople_202 (by omega) (by omega) ?_
                refine zr_iN eX12_movePeople_203 zs122 (j := 20 + s) (by omega) (by omega) ?_
                rw [zup_off (by decide), d20]
                refine z_il5 eX12_movePeople_204 ?_
                refine z_iaddN eX12_movePeople_206 (by omega) (by omega) ?_
                refine zs_iN eX12_movePeople_207 zs124 (j := s) (by omega) (by omega) ?_
                have z117 : ∀ i, zup (zup g 136 s (byK k)) 124 s (D (20 + s) + byK k) 117 i = g 117 i := fun i => by rw [zup_off (by decide), zup_off (by decide)]
                have hMn : mP D a wn kd most ch (s + 1) (s + 1) (fu p s (byK k)) (zup (zup g 136 s (byK k)) 124 s (D (20 + s) + byK k)) := by
                  refine ⟨by rw [zup_off (by decide), zup_off (by decide)]; exact m1, by rw [z117, z117, z117, z117, z117]; exact ⟨m2, m3, m4, m5, m6⟩, fun j hj => ?_, fun j j1 j2 => by rw [zup_ne (by omega), zup_off (by decide)]; exact m8 j j1 j2⟩
                  unfold fu
                  by_cases e : j = s
                  · subst e
                    rw [if_pos rfl, zup_off (by decide), zup_at, zup_at]
                    exact ⟨rfl, rfl⟩
                  · rw [if_neg e, zup_off (show ¬ 136 = 124 by decide), zup_ne (by omega), zup_ne (by omega), zup_off (by decide)]
                    exact m7 j (by omega)
                have hFn : pF D kd (s + 1) (fu p s (byK k)) := fun j hj => by
                  unfold fu
                  by_cases e : j = s
                  · rw [if_pos e, e]; exact hfe
                  · rw [if_neg e]; exact hf j (by omega)
                have hBn : isB D (nS D) ch (P0M D a wn kd most (s + 1) (fu p s (byK k))) (zup (zup g 136 s (byK k)) 124 s (D (20 + s) + byK k) 117 46) (zup (zup g 136 s (byK k)) 124 s (D (20 + s) + byK k) 117 47) (zup (zup g 136 s (byK k)) 124 s (D (20 + s) + byK k) 137) := by
                  rw [z117, z117, zup_off (show ¬ 137 = 124 by decide), zup_off (show ¬ 137 = 136 by decide)]
                  refine isB_iff (fun z => ?_) HBg
                  rw [P0M_fu, rk_by]
                refine z_al0 eX12_movePeople_208 ?_
                refine z_il1 eX12_movePeople_209 ?_
                refine z_ki eX12_movePeople_210 ?_
                refine z_iaddN eX12_movePeople_211 (by omega) (by omega) ?_
                refine z_il2 eX12_movePeople_212 ?_
                refine z_il5 eX12_movePeople_213 ?_
                refine z_abs (y := 0) eX12_movePeople_215 lX12_384 (by omega) (Nat.le_of_ble_eq_true rfl) (by omega) ?_
                rw [show (if 0 ≤ byK k then byK k else -byK k) = absI (byK k) from rfl]
                refine z_iaddN eX12_movePeople_218 (by omega) (by omega) ?_
                refine z_il3 eX12_movePeople_219 ?_
                refine z_il5 eX12_movePeople_220 ?_
                refine z_abs (y := 0) eX12_movePeople_222 lX12_384 (by omega) (Nat.le_of_ble_eq_true rfl) (by omega) ?_
                rw [show (if 0 ≤ byK k then byK k else -byK k) = absI (byK k) from rfl]
                refine z_al0 eX12_movePeople_225 ?_
                refine z_ga eX12_movePeople_226 fX12_35 zs117 (t := 122) rfl ?_
                refine z_ki eX12_movePeople_229 ?_
                refine z_il1 eX12_movePeople_231 ?_
                refine z_iaddN eX12_movePeople_232 (by omega) (by omega) ?_
                refine zr_iN eX12_movePeople_233 zs122 (j := 60 + s) (by omega) (by omega) ?_
                rw [zup_off (by decide), zup_off (by decide), d60]
                refine z_imulN eX12_movePeople_234 (by omega) (by omega) ?_
                refine z_iaddN eX12_movePeople_235 (by omega) (by omega) ?_
                rw [show (s : Int) + 1 = ((s + 1 : Nat) : Int) by omega, ← tot_fu, ← cst_fu]
                refine zc_vv3 eX12_movePeople_236 lX12_386 tX12_movePeople zs117 (by omega) (Nat.le_of_ble_eq_true rfl) (IH (s + 1) (fu p s (byK k)) _ (by omega) hMn hFn (by rw [tot_fu]; omega) hBn) ?_
                rintro g2 ⟨Hg2, HB2, hm2⟩
                refine z_incN4 eX12_movePeople_239 zn0 (by omega) (by omega) ?_
                refine z_goto eX12_movePeople_242 rfl ?_
                refine z_fg5 ?_
                obtain ⟨n1, nn, n7, n8⟩ := Hg2
                refine ih (q - 1) (by omega) (k + 1) g2 (by omega) ⟨n1, nn, fun j hj => ?_, fun j j1 j2 => ?_⟩ (((hmf.up (by omega) (by omega) rfl).up (by omega) (by omega) rfl).tr hm2) ?_
                · have := n7 j (by omega)
                  rw [show fu p s (byK k) j = p j from if_neg (by omega)] at this
                  exact this
                · exact n8 j j1 j2
                · have e := rk_by k
                  refine isB_iff (fun z => ?_) HB2
                  rw [← P1M_fu, e]
              · refine z_goto eX12_movePeople_179 rfl ?_
                refine z_incN4 eX12_movePeople_239 zn0 (by omega) (by omega) ?_
                refine z_goto eX12_movePeople_242 rfl ?_
                refine z_fg5 ?_
                refine ih (q - 1) (by omega) (k + 1) g (by omega) Hg hmf ?_
                refine isB_skip HBg (fun z hz => ⟨hz.1, hz.2.imp id (fun y => ⟨y.1, by omega⟩)⟩) (fun z hz => Or.inl ⟨hz.1, ?_⟩)
                rcases hz.2 with y | ⟨y1, y2⟩
                · exact Or.inl y
                · refine Or.inr ⟨y1, ?_⟩
                  by_cases e : rk (z s) = k
                  · exfalso
                    have ez : z s = byK k := rk_inj (by rw [e, rk_by])
                    have fz := hz.1.1 s (by omega)
                    rw [ez] at fz
                    unfold fe1 at fz
                    have := (fz.2 (by omega)).2
                    omega
                  · omega
        · refine z_al0 eX12_movePeople_123 ?_
          refine z_gi eX12_movePeople_124 fX12_369 zs117 ?_
          refine z_ki eX12_movePeople_127 ?_
          rw [m5]
          refine z_iand eX12_movePeople_128 ?_
          refine z_ieq eX12_movePeople_129 rfl (fun c129 => ?_) (fun c129 => ?_)
          · refine z_incN4 eX12_movePeople_239 zn0 (by omega) (by omega) ?_
            refine z_goto eX12_movePeople_242 rfl ?_
            refine z_fg5 ?_
            refine ih (q - 1) (by omega) (k + 1) g (by omega) Hg hmf ?_
            refine isB_skip HBg (fun z hz => ⟨hz.1, hz.2.imp id (fun y => ⟨y.1, by omega⟩)⟩) (fun z hz => Or.inl ⟨hz.1, ?_⟩)
            rcases hz.2 with y | ⟨y1, y2⟩
            · exact Or.inl y
            · refine Or.inr ⟨y1, ?_⟩
              by_cases e : rk (z s) = k
              · exfalso
                have ez : z s = byK k := rk_inj (by rw [e, rk_by])
                have fz := hz.1.1 s (by omega)
                rw [ez] at fz
                unfold fe1 at fz
                have := (fz.1 (by omega)).1
                omega
              · omega
          · refine z_il5 eX12_movePeople_132 ?_
            refine z_al0 eX12_movePeople_134 ?_
            refine z_ga eX12_movePeople_135 fX12_35 zs117 (t := 122) rfl ?_
            refine z_ki eX12_movePeople_138 ?_
            refine z_il1 eX12_movePeople_140 ?_
            refine z_iaddN eX12_movePeople_141 (by omega) (by omega) ?_
            refine zr_iN eX12_movePeople_142 zs122 (j := 40 + s) (by omega) (by omega) ?_
            rw [d40]
            refine z_cle eX12_movePeople_143 rfl (fun c143 => ?_) (fun c143 => ?_)
            · refine z_il5 eX12_movePeople_149 ?_
              refine z_ige eX12_movePeople_151 rfl (fun c151 => ?_) (fun c151 => ?_)
              · have hfe : fe1 D kd s (byK k) := by unfold fe1; exact ⟨fun z => ⟨by omega, by omega⟩, fun z => ⟨by omega, by omega⟩⟩
                have hv1 := Int.mul_nonneg hab.1 hbs.2.2.2.1
                have hv2 := Int.mul_le_mul_of_nonneg_left hbs.2.2.2.2 hab.1
                refine z_al0 eX12_movePeople_182 ?_
                refine z_ga eX12_movePeople_183 fX12_77 zs117 (t := 136) rfl ?_
                refine z_il1 eX12_movePeople_186 ?_
                refine z_il5 eX12_movePeople_187 ?_
                refine zs_iN eX12_movePeople_189 zs136 (j := s) (by omega) (by omega) ?_
                refine z_al0 eX12_movePeople_190 ?_
                refine z_ga eX12_movePeople_191 fX12_41 zs117 (t := 124) rfl ?_
                refine z_il1 eX12_movePeople_194 ?_
                refine z_al0 eX12_movePeople_195 ?_
                refine z_ga eX12_movePeople_196 fX12_35 zs117 (t := 122) rfl ?_
                refine z_ki eX12_movePeople_199 ?_
                refine z_il1 eX12_movePeople_201 ?_
                refine z_iaddN eX12_movePeople_202 (by omega) (by omega) ?_
                refine zr_iN eX12_movePeople_203 zs122 (j := 20 + s) (by omega) (by omega) ?_
                rw [zup_off (by decide), d20]
                refine z_il5 eX12_movePeople_204 ?_
                refine z_iaddN eX12_movePeople_206 (by omega) (by omega) ?_
                refine zs_iN eX12_movePeople_207 zs124 (j := s) (by omega) (by omega) ?_
                have z117 : ∀ i, zup (zup g 136 s (byK k)) 124 s (D (20 + s) + byK k) 117 i = g 117 i := fun i => by rw [zup_off (by decide), zup_off (by decide)]
                have hMn : mP D a wn kd most ch (s + 1) (s + 1) (fu p s (byK k)) (zup (zup g 136 s (byK k)) 124 s (D (20 + s) + byK k)) := by
                  refine ⟨by rw [zup_off (by decide), zup_off (by decide)]; exact m1, by rw [z117, z117, z117, z117, z117]; exact ⟨m2, m3, m4, m5, m6⟩, fun j hj => ?_, fun j j1 j2 => by rw [zup_ne (by omega), zup_off (by decide)]; exact m8 j j1 j2⟩
                  unfold fu
                  by_cases e : j = s
                  · subst e
                    rw [if_pos rfl, zup_off (by decide), zup_at, zup_at]
                    exact ⟨rfl, rfl⟩
                  · rw [if_neg e, zup_off (show ¬ 136 = 124 by decide), zup_ne (by omega), zup_ne (by omega), zup_off (by decide)]
                    exact m7 j (by omega)
                have hFn : pF D kd (s + 1) (fu p s (byK k)) := fun j hj => by
                  unfold fu
                  by_cases e : j = s
                  · rw [if_pos e, e]; exact hfe
                  · rw [if_neg e]; exact hf j (by omega)
                have hBn : isB D (nS D) ch (P0M D a wn kd most (s + 1) (fu p s (byK k))) (zup (zup g 136 s (byK k)) 124 s (D (20 + s) + byK k) 117 46) (zup (zup g 136 s (byK k)) 124 s (D (20 + s) + byK k) 117 47) (zup (zup g 136 s (byK k)) 124 s (D (20 + s) + byK k) 137) := by
                  rw [z117, z117, zup_off (show ¬ 137 = 124 by decide), zup_off (show ¬ 137 = 136 by decide)]
                  refine isB_iff (fun z => ?_) HBg
                  rw [P0M_fu, rk_by]
                refine z_al0 eX12_movePeople_208 ?_
                refine z_il1 eX12_movePeople_209 ?_
                refine z_ki eX12_movePeople_210 ?_
                refine z_iaddN eX12_movePeople_211 (by omega) (by omega) ?_
                refine z_il2 eX12_movePeople_212 ?_
                refine z_il5 eX12_movePeople_213 ?_
                refine z_abs (y := 0) eX12_movePeople_215 lX12_384 (by omega) (Nat.le_of_ble_eq_true rfl) (by omega) ?_
                rw [show (if 0 ≤ byK k then byK k else -byK k) = absI (byK k) from rfl]
                refine z_iaddN eX12_movePeople_218 (by omega) (by omega) ?_
                refine z_il3 eX12_movePeople_219 ?_
                refine z_il5 eX12_movePeople_220 ?_
                refine z_abs (y := 0) eX12_movePeople_222 lX12_384 (by omega) (Nat.le_of_ble_eq_true rfl) (by omega) ?_
                rw [show (if 0 ≤ byK k then byK k else -byK k) = absI (byK k) from rfl]
                refine z_al0 eX12_movePeople_225 ?_
                refine z_ga eX12_movePeople_226 fX12_35 zs117 (t := 122) rfl ?_
                refine z_ki eX12_movePeople_229 ?_
                refine z_il1 eX12_movePeople_231 ?_
                refine z_iaddN eX12_movePeople_232 (by omega) (by omega) ?_
                refine zr_iN eX12_movePeople_233 zs122 (j := 60 + s) (by omega) (by omega) ?_
                rw [zup_off (by decide), zup_off (by decide), d60]
                refine z_imulN eX12_movePeople_234 (by omega) (by omega) ?_
                refine z_iaddN eX12_movePeople_235 (by omega) (by omega) ?_
                rw [show (s : Int) + 1 = ((s + 1 : Nat) : Int) by omega, ← tot_fu, ← cst_fu]
                refine zc_vv3 eX12_movePeople_236 lX12_386 tX12_movePeople zs117 (by omega) (Nat.le_of_ble_eq_true rfl) (IH (s + 1) (fu p s (byK k)) _ (by omega) hMn hFn (by rw [tot_fu]; omega) hBn) ?_
                rintro g2 ⟨Hg2, HB2, hm2⟩
                refine z_incN4 eX12_movePeople_239 zn0 (by omega) (by omega) ?_
                refine z_goto eX12_movePeople_242 rfl ?_
                refine z_fg5 ?_
                obtain ⟨n1, nn, n7, n8⟩ := Hg2
                refine ih (q - 1) (by omega) (k + 1) g2 (by omega) ⟨n1, nn, fun j hj => ?_, fun j j1 j2 => ?_⟩ (((hmf.up (by omega) (by omega) rfl).up (by omega) (by omega) rfl).tr hm2) ?_
                · have := n7 j (by omega)
                  rw [show fu p s (byK k) j = p j from if_neg (by omega)] at this
                  exact this
                · exact n8 j j1 j2
                · have e := rk_by k
                  refine isB_iff (fun z => ?_) HB2
                  rw [← P1M_fu, e]
              · refine z_al0 eX12_movePeople_154 ?_
                refine z_gi eX12_movePeople_155 fX12_369 zs117 ?_
                refine z_ki eX12_movePeople_158 ?_
                rw [m5]
                refine z_iand eX12_movePeople_160 ?_
                refine z_ieq eX12_movePeople_161 rfl (fun c161 => ?_) (fun c161 => ?_)
                · refine z_incN4 eX12_movePeople_239 zn0 (by omega) (by omega) ?_
                  refine z_goto eX12_movePeople_242 rfl ?_
                  refine z_fg5 ?_
                  refine ih (q - 1) (by omega) (k + 1) g (by omega) Hg hmf ?_
                  refine isB_skip HBg (fun z hz => ⟨hz.1, hz.2.imp id (fun y => ⟨y.1, by omega⟩)⟩) (fun z hz => Or.inl ⟨hz.1, ?_⟩)
                  rcases hz.2 with y | ⟨y1, y2⟩
                  · exact Or.inl y
                  · refine Or.inr ⟨y1, ?_⟩
                    by_cases e : rk (z s) = k
                    · exfalso
                      have ez : z s = byK k := rk_inj (by rw [e, rk_by])
                      have fz := hz.1.1 s (by omega)
                      rw [ez] at fz
                      unfold fe1 at fz
                      have := (fz.2 (by omega)).1
                      omega
                    · omega
                · refine z_il5 eX12_movePeople_164 ?_
                  refine z_inegN eX12_movePeople_166 (by omega) ?_
                  refine z_al0 eX12_movePeople_167 ?_
                  refine z_ga eX12_movePeople_168 fX12_35 zs117 (t := 122) rfl ?_
                  refine z_ki eX12_movePeople_171 ?_
                  refine z_il1 eX12_movePeople_173 ?_
                  refine z_iaddN eX12_movePeople_174 (by omega) (by omega) ?_
                  refine zr_iN eX12_movePeople_175 zs122 (j := 20 + s) (by omega) (by omega) ?_
                  rw [d20]
                  refine z_cle eX12_movePeople_176 rfl (fun c176 => ?_) (fun c176 => ?_)
                  · have hfe : fe1 D kd s (byK k) := by unfold fe1; exact ⟨fun z => ⟨by omega, by omega⟩, fun z => ⟨by omega, by omega⟩⟩
                    have hv1 := Int.mul_nonneg hab.1 hbs.2.2.2.1
                    have hv2 := Int.mul_le_mul_of_nonneg_left hbs.2.2.2.2 hab.1
                    refine z_al0 eX12_movePeople_182 ?_
                    refine z_ga eX12_movePeople_183 fX12_77 zs117 (t := 136) rfl ?_
                    refine z_il1 eX12_movePeople_186 ?_
                    refine z_il5 eX12_movePeople_187 ?_
                    refine zs_iN eX12_movePeople_189 zs136 (j := s) (by omega) (by omega) ?_
                    refine z_al0 eX12_movePeople_190 ?_
                    refine z_ga eX12_movePeople_191 fX12_41 zs117 (t := 124) rfl ?_
                    refine z_il1 eX12_movePeople_194 ?_
                    refine z_al0 eX12_movePeople_195 ?_
                    refine z_ga eX12_movePeople_196 fX12_35 zs117 (t := 122) rfl ?_
                    refine z_ki eX12_movePeople_199 ?_
                    refine z_il1 eX12_movePeople_201 ?_
                    refine z_iaddN eX12_movePeople_202 (by omega) (by omega) ?_
                    refine zr_iN eX12_movePeople_203 zs122 (j := 20 + s) (by omega) (by omega) ?_
                    rw [zup_off (by decide), d20]
                    refine z_il5 eX12_movePeople_204 ?_
                    refine z_iaddN eX12_movePeople_206 (by omega) (by omega) ?_
                    refine zs_iN eX12_movePeople_207 zs124 (j := s) (by omega) (by omega) ?_
                    have z117 : ∀ i, zup (zup g 136 s (byK k)) 124 s (D (20 + s) + byK k) 117 i = g 117 i := fun i => by rw [zup_off (by decide), zup_off (by decide)]
                    have hMn : mP D a wn kd most ch (s + 1) (s + 1) (fu p s (byK k)) (zup (zup g 136 s (byK k)) 124 s (D (20 + s) + byK k)) := by
                      refine ⟨by rw [zup_off (by decide), zup_off (by decide)]; exact m1, by rw [z117, z117, z117, z117, z117]; exact ⟨m2, m3, m4, m5, m6⟩, fun j hj => ?_, fun j j1 j2 => by rw [zup_ne (by omega), zup_off (by decide)]; exact m8 j j1 j2⟩
                      unfold fu
                      by_cases e : j = s
                      · subst e
                        rw [if_pos rfl, zup_off (by decide), zup_at, zup_at]
                        exact ⟨rfl, rfl⟩
                      · rw [if_neg e, zup_off (show ¬ 136 = 124 by decide), zup_ne (by omega), zup_ne (by omega), zup_off (by decide)]
                        exact m7 j (by omega)
                    have hFn : pF D kd (s + 1) (fu p s (byK k)) := fun j hj => by
                      unfold fu
                      by_cases e : j = s
                      · rw [if_pos e, e]; exact hfe
                      · rw [if_neg e]; exact hf j (by omega)
                    have hBn : isB D (nS D) ch (P0M D a wn kd most (s + 1) (fu p s (byK k))) (zup (zup g 136 s (byK k)) 124 s (D (20 + s) + byK k) 117 46) (zup (zup g 136 s (byK k)) 124 s (D (20 + s) + byK k) 117 47) (zup (zup g 136 s (byK k)) 124 s (D (20 + s) + byK k) 137) := by
                      rw [z117, z117, zup_off (show ¬ 137 = 124 by decide), zup_off (show ¬ 137 = 136 by decide)]
                      refine isB_iff (fun z => ?_) HBg
                      rw [P0M_fu, rk_by]
                    refine z_al0 eX12_movePeople_208 ?_
                    refine z_il1 eX12_movePeople_209 ?_
                    refine z_ki eX12_movePeople_210 ?_
                    refine z_iaddN eX12_movePeople_211 (by omega) (by omega) ?_
                    refine z_il2 eX12_movePeople_212 ?_
                    refine z_il5 eX12_movePeople_213 ?_
                    refine z_abs (y := 0) eX12_movePeople_215 lX12_384 (by omega) (Nat.le_of_ble_eq_true rfl) (by omega) ?_
                    rw [show (if 0 ≤ byK k then byK k else -byK k) = absI (byK k) from rfl]
                    refine z_iaddN eX12_movePeople_218 (by omega) (by omega) ?_
                    refine z_il3 eX12_movePeople_219 ?_
                    refine z_il5 eX12_movePeople_220 ?_
                    refine z_abs (y := 0) eX12_movePeople_222 lX12_384 (by omega) (Nat.le_of_ble_eq_true rfl) (by omega) ?_
                    rw [show (if 0 ≤ byK k then byK k else -byK k) = absI (byK k) from rfl]
                    refine z_al0 eX12_movePeople_225 ?_
                    refine z_ga eX12_movePeople_226 fX12_35 zs117 (t := 122) rfl ?_
                    refine z_ki eX12_movePeople_229 ?_
                    refine z_il1 eX12_movePeople_231 ?_
                    refine z_iaddN eX12_movePeople_232 (by omega) (by omega) ?_
                    refine zr_iN eX12_movePeople_233 zs122 (j := 60 + s) (by omega) (by omega) ?_
                    rw [zup_off (by decide), zup_off (by decide), d60]
                    refine z_imulN eX12_movePeople_234 (by omega) (by omega) ?_
                    refine z_iaddN eX12_movePeople_235 (by omega) (by omega) ?_
                    rw [show (s : Int) + 1 = ((s + 1 : Nat) : Int) by omega, ← tot_fu, ← cst_fu]
                    refine zc_vv3 eX12_movePeople_236 lX12_386 tX12_movePeople zs117 (by omega) (Nat.le_of_ble_eq_true rfl) (IH (s + 1) (fu p s (byK k)) _ (by omega) hMn hFn (by rw [tot_fu]; omega) hBn) ?_
                    rintro g2 ⟨Hg2, HB2, hm2⟩
                    refine z_incN4 eX12_movePeople_239 zn0 (by omega) (by omega) ?_
                    refine z_goto eX12_movePeople_242 rfl ?_
                    refine z_fg5 ?_
                    obtain ⟨n1, nn, n7, n8⟩ := Hg2
                    refine ih (q - 1) (by omega) (k + 1) g2 (by omega) ⟨n1, nn, fun j hj => ?_, fun j j1 j2 => ?_⟩ (((hmf.up (by omega) (by omega) rfl).up (by omega) (by omega) rfl).tr hm2) ?_
                    · have := n7 j (by omega)
                      rw [show fu p s (byK k) j = p j from if_neg (by omega)] at this
                      exact this
                    · exact n8 j j1 j2
                    · have e := rk_by k
                      refine isB_iff (fun z => ?_) HB2
                      rw [← P1M_fu, e]
                  · refine z_goto eX12_movePeople_179 rfl ?_
                    refine z_incN4 eX12_movePeople_239 zn0 (by omega) (by omega) ?_
                    refine z_goto eX12_movePeople_242 rfl ?_
                    refine z_fg5 ?_
                    refine ih (q - 1) (by omega) (k + 1) g (by omega) Hg hmf ?_
                    refine isB_skip HBg (fun z hz => ⟨hz.1, hz.2.imp id (fun y => ⟨y.1, by omega⟩)⟩) (fun z hz => Or.inl ⟨hz.1, ?_⟩)
                    rcases hz.2 with y | ⟨y1, y2⟩
                    · exact Or.inl y
                    · refine Or.inr ⟨y1, ?_⟩
                      by_cases e : rk (z s) = k
                      · exfalso
                        have ez : z s = byK k := rk_inj (by rw [e, rk_by])
                        have fz := hz.1.1 s (by omega)
                        rw [ez] at fz
                        unfold fe1 at fz
                        have := (fz.2 (by omega)).2
                        omega
                      · omega
            · refine z_goto eX12_movePeople_146 rfl ?_
              refine z_incN4 eX12_movePeople_239 zn0 (by omega) (by omega) ?_
              refine z_goto eX12_movePeople_242 rfl ?_
              refine z_fg5 ?_
              refine ih (q - 1) (by omega) (k + 1) g (by omega) Hg hmf ?_
              refine isB_skip HBg (fun z hz => ⟨hz.1, hz.2.imp id (fun y => ⟨y.1, by omega⟩)⟩) (fun z hz => Or.inl ⟨hz.1, ?_⟩)
              rcases hz.2 with y | ⟨y1, y2⟩
              · exact Or.inl y
              · refine Or.inr ⟨y1, ?_⟩
                by_cases e : rk (z s) = k
                · exfalso
                  have ez : z s = byK k := rk_inj (by rw [e, rk_by])
                  have fz := hz.1.1 s (by omega)
                  rw [ez] at fz
                  unfold fe1 at fz
                  have := (fz.1 (by omega)).2
                  omega
                · omega
      · refine z_il4 eX12_movePeople_102 ?_
        refine z_ki eX12_movePeople_104 ?_
        refine z_iaddN eX12_movePeople_105 (by omega) (by omega) ?_
        refine z_ki eX12_movePeople_106 ?_
        refine z_idiv eX12_movePeople_107 (by omega) ?_
        rw [show (k : Int) + 1 = ((k + 1 : Nat) : Int) by omega, zdiv2b (k + 1) (by omega), show (((k + 1) / 2 : Nat) : Int) = byK k by unfold byK; rw [if_pos (by omega)]]
        refine z_goto eX12_movePeople_108 rfl ?_
        refine z_is5 eX12_movePeople_116 zn0 ?_
        have hab := absI_b (byK k)
        have hrk := absI_rk (byK k)
        rw [rk_by] at hrk
        refine z_il5 eX12_movePeople_118 ?_
        refine z_ile eX12_movePeople_120 rfl (fun c120 => ?_) (fun c120 => ?_)
        · refine z_il5 eX12_movePeople_149 ?_
          refine z_ige eX12_movePeople_151 rfl (fun c151 => ?_) (fun c151 => ?_)
          · have hfe : fe1 D kd s (byK k) := by unfold fe1; exact ⟨fun z => ⟨by omega, by omega⟩, fun z => ⟨by omega, by omega⟩⟩
            have hv1 := Int.mul_nonneg hab.1 hbs.2.2.2.1
            have hv2 := Int.mul_le_mul_of_nonneg_left hbs.2.2.2.2 hab.1
            refine z_al0 eX12_movePeople_182 ?_
            refine z_ga eX12_movePeople_183 fX12_77 zs117 (t := 136) rfl ?_
            refine z_il1 eX12_movePeople_186 ?_
            refine z_il5 eX12_movePeople_187 ?_
            refine zs_iN eX12_movePeople_189 zs136 (j := s) (by omega) (by omega) ?_
            refine z_al0 eX12_movePeople_190 ?_
            refine z_ga eX12_movePeople_191 fX12_41 zs117 (t := 124) rfl ?_
            refine z_il1 eX12_movePeople_194 ?_
            refine z_al0 eX12_movePeople_195 ?_
            refine z_ga eX12_movePeople_196 fX12_35 zs117 (t := 122) rfl ?_
            refine z_ki eX12_movePeople_199 ?_
            refine z_il1 eX12_movePeople_201 ?_
            refine z_iaddN eX12_movePeople_202 (by omega) (by omega) ?_
            refine zr_iN eX12_movePeople_203 zs122 (j := 20 + s) (by omega) (by omega) ?_
            rw [zup_off (by decide), d20]
            refine z_il5 eX12_movePeople_204 ?_
            refine z_iaddN eX12_movePeople_206 (by omega) (by omega) ?_
            refine zs_iN eX12_movePeople_207 zs124 (j := s) (by omega) (by omega) ?_
            have z117 : ∀ i, zup (zup g 136 s (byK k)) 124 s (D (20 + s) + byK k) 117 i = g 117 i := fun i => by rw [zup_off (by decide), zup_off (by decide)]
            have hMn : mP D a wn kd most ch (s + 1) (s + 1) (fu p s (byK k)) (zup (zup g 136 s (byK k)) 124 s (D (20 + s) + byK k)) := by
              refine ⟨by rw [zup_off (by decide), zup_off (by decide)]; exact m1, by rw [z117, z117, z117, z117, z117]; exact ⟨m2, m3, m4, m5, m6⟩, fun j hj => ?_, fun j j1 j2 => by rw [zup_ne (by omega), zup_off (by decide)]; exact m8 j j1 j2⟩
              unfold fu
              by_cases e : j = s
              · subst e
                rw [if_pos rfl, zup_off (by decide), zup_at, zup_at]
                exact ⟨rfl, rfl⟩
              · rw [if_neg e, zup_off (show ¬ 136 = 124 by decide), zup_ne (by omega), zup_ne (by omega), zup_off (by decide)]
                exact m7 j (by omega)
            have hFn : pF D kd (s + 1) (fu p s (byK k)) := fun j hj => by
              unfold fu
              by_cases e : j = s
              · rw [if_pos e, e]; exact hfe
              · rw [if_neg e]; exact hf j (by omega)
            have hBn : isB D (nS D) ch (P0M D a wn kd most (s + 1) (fu p s (byK k))) (zup (zup g 136 s (byK k)) 124 s (D (20 + s) + byK k) 117 46) (zup (zup g 136 s (byK k)) 124 s (D (20 + s) + byK k) 117 47) (zup (zup g 136 s (byK k)) 124 s (D (20 + s) + byK k) 137) := by
              rw [z117, z117, zup_off (show ¬ 137 = 124 by decide), zup_off (show ¬ 137 = 136 by decide)]
              refine isB_iff (fun z => ?_) HBg
              rw [P0M_fu, rk_by]
            refine z_al0 eX12_movePeople_208 ?_
            refine z_il1 eX12_movePeople_209 ?_
            refine z_ki eX12_movePeople_210 ?_
            refine z_iaddN eX12_movePeople_211 (by omega) (by omega) ?_
            refine z_il2 eX12_movePeople_212 ?_
            refine z_il5 eX12_movePeople_213 ?_
            refine z_abs (y := 0) eX12_movePeople_215 lX12_384 (by omega) (Nat.le_of_ble_eq_true rfl) (by omega) ?_
            rw [show (if 0 ≤ byK k then byK k else -byK k) = absI (byK k) from rfl]
            refine z_iaddN eX12_movePeople_218 (by omega) (by omega) ?_
            refine z_il3 eX12_movePeople_219 ?_
            refine z_il5 eX12_movePeople_220 ?_
            refine z_abs (y := 0) eX12_movePeople_222 lX12_384 (by omega) (Nat.le_of_ble_eq_true rfl) (by omega) ?_
            rw [show (if 0 ≤ byK k then byK k else -byK k) = absI (byK k) from rfl]
            refine z_al0 eX12_movePeople_225 ?_
            refine z_ga eX12_movePeople_226 fX12_35 zs117 (t := 122) rfl ?_
            refine z_ki eX12_movePeople_229 ?_
            refine z_il1 eX12_movePeople_231 ?_
            refine z_iaddN eX12_movePeople_232 (by omega) (by omega) ?_
            refine zr_iN eX12_movePeople_233 zs122 (j := 60 + s) (by omega) (by omega) ?_
            rw [zup_off (by decide), zup_off (by decide), d60]
            refine z_imulN eX12_movePeople_234 (by omega) (by omega) ?_
            refine z_iaddN eX12_movePeople_235 (by omega) (by omega) ?_
            rw [show (s : Int) + 1 = ((s + 1 : Nat) : Int) by omega, ← tot_fu, ← cst_fu]
            refine zc_vv3 eX12_movePeople_236 lX12_386 tX12_movePeople zs117 (by omega) (Nat.le_of_ble_eq_true rfl) (IH (s + 1) (fu p s (byK k)) _ (by omega) hMn hFn (by rw [tot_fu]; omega) hBn) ?_
            rintro g2 ⟨Hg2, HB2, hm2⟩
            refine z_incN4 eX12_movePeople_239 zn0 (by omega) (by omega) ?_
            refine z_goto eX12_movePeople_242 rfl ?_
            refine z_fg5 ?_
            obtain ⟨n1, nn, n7, n8⟩ := Hg2
            refine ih (q - 1) (by omega) (k + 1) g2 (by omega) ⟨n1, nn, fun j hj => ?_, fun j j1 j2 => ?_⟩ (((hmf.up (by omega) (by omega) rfl).up (by omega) (by omega) rfl).tr hm2) ?_
            · have := n7 j (by omega)
              rw [show fu p s (byK k) j = p j from if_neg (by omega)] at this
              exact this
            · exact n8 j j1 j2
            · have e := rk_by k
              refine isB_iff (fun z => ?_) HB2
              rw [← P1M_fu, e]
          · refine z_al0 eX12_movePeople_154 ?_
            refine z_gi eX12_movePeople_155 fX12_369 zs117 ?_
            refine z_ki eX12_movePeople_158 ?_
            rw [m5]
            refine z_iand eX12_movePeople_160 ?_
            refine z_ieq eX12_movePeople_161 rfl (fun c161 => ?_) (fun c161 => ?_)
            · refine z_incN4 eX12_movePeople_239 zn0 (by omega) (by omega) ?_
              refine z_goto eX12_movePeople_242 rfl ?_
              refine z_fg5 ?_
              refine ih (q - 1) (by omega) (k + 1) g (by omega) Hg hmf ?_
              refine isB_skip HBg (fun z hz => ⟨hz.1, hz.2.imp id (fun y => ⟨y.1, by omega⟩)⟩) (fun z hz => Or.inl ⟨hz.1, ?_⟩)
              rcases hz.2 with y | ⟨y1, y2⟩
              · exact Or.inl y
              · refine Or.inr ⟨y1, ?_⟩
                by_cases e : rk (z s) = k
                · exfalso
                  have ez : z s = byK k := rk_inj (by rw [e, rk_by])
                  have fz := hz.1.1 s (by omega)
                  rw [ez] at fz
                  unfold fe1 at fz
                  have := (fz.2 (by omega)).1
                  omega
                · omega
            · refine z_il5 eX12_movePeople_164 ?_
              refine z_inegN eX12_movePeople_166 (by omega) ?_
              refine z_al0 eX12_movePeople_167 ?_
              refine z_ga eX12_movePeople_168 fX12_35 zs117 (t := 122) rfl ?_
              refine z_ki eX12_movePeople_171 ?_
              refine z_il1 eX12_movePeople_173 ?_
              refine z_iaddN eX12_movePeople_174 (by omega) (by omega) ?_
              refine zr_iN eX12_movePeople_175 zs122 (j := 20 + s) (by omega) (by omega) ?_
              rw [d20]
              refine z_cle eX12_movePeople_176 rfl (fun c176 => ?_) (fun c176 => ?_)
              · have hfe : fe1 D kd s (byK k) := by unfold fe1; exact ⟨fun z => ⟨by omega, by omega⟩, fun z => ⟨by omega, by omega⟩⟩
                have hv1 := Int.mul_nonneg hab.1 hbs.2.2.2.1
                have hv2 := Int.mul_le_mul_of_nonneg_left hbs.2.2.2.2 hab.1
                refine z_al0 eX12_movePeople_182 ?_
                refine z_ga eX12_movePeople_183 fX12_77 zs117 (t := 136) rfl ?_
                refine z_il1 eX12_movePeople_186 ?_
                refine z_il5 eX12_movePeople_187 ?_
                refine zs_iN eX12_movePeople_189 zs136 (j := s) (by omega) (by omega) ?_
                refine z_al0 eX12_movePeople_190 ?_
                refine z_ga eX12_movePeople_191 fX12_41 zs117 (t := 124) rfl ?_
                refine z_il1 eX12_movePeople_194 ?_
                refine z_al0 eX12_movePeople_195 ?_
                refine z_ga eX12_movePeople_196 fX12_35 zs117 (t := 122) rfl ?_
                refine z_ki eX12_movePeople_199 ?_
                refine z_il1 eX12_movePeople_201 ?_
                refine z_iaddN eX12_movePeople_202 (by omega) (by omega) ?_
                refine zr_iN eX12_movePeople_203 zs122 (j := 20 + s) (by omega) (by omega) ?_
                rw [zup_off (by decide), d20]
                refine z_il5 eX12_movePeople_204 ?_
                refine z_iaddN eX12_movePeople_206 (by omega) (by omega) ?_
                refine zs_iN eX12_movePeople_207 zs124 (j := s) (by omega) (by omega) ?_
                have z117 : ∀ i, zup (zup g 136 s (byK k)) 124 s (D (20 + s) + byK k) 117 i = g 117 i := fun i => by rw [zup_off (by decide), zup_off (by decide)]
                have hMn : mP D a wn kd most ch (s + 1) (s + 1) (fu p s (byK k)) (zup (zup g 136 s (byK k)) 124 s (D (20 + s) + byK k)) := by
                  refine ⟨by rw [zup_off (by decide), zup_off (by decide)]; exact m1, by rw [z117, z117, z117, z117, z117]; exact ⟨m2, m3, m4, m5, m6⟩, fun j hj => ?_, fun j j1 j2 => by rw [zup_ne (by omega), zup_off (by decide)]; exact m8 j j1 j2⟩
                  unfold fu
                  by_cases e : j = s
                  · subst e
                    rw [if_pos rfl, zup_off (by decide), zup_at, zup_at]
                    exact ⟨rfl, rfl⟩
                  · rw [if_neg e, zup_off (show ¬ 136 = 124 by decide), zup_ne (by omega), zup_ne (by omega), zup_off (by decide)]
                    exact m7 j (by omega)
                have hFn : pF D kd (s + 1) (fu p s (byK k)) := fun j hj => by
                  unfold fu
                  by_cases e : j = s
                  · rw [if_pos e, e]; exact hfe
                  · rw [if_neg e]; exact hf j (by omega)
                have hBn : isB D (nS D) ch (P0M D a wn kd most (s + 1) (fu p s (byK k))) (zup (zup g 136 s (byK k)) 124 s (D (20 + s) + byK k) 117 46) (zup (zup g 136 s (byK k)) 124 s (D (20 + s) + byK k) 117 47) (zup (zup g 136 s (byK k)) 124 s (D (20 + s) + byK k) 137) := by
                  rw [z117, z117, zup_off (show ¬ 137 = 124 by decide), zup_off (show ¬ 137 = 136 by decide)]
                  refine isB_iff (fun z => ?_) HBg
                  rw [P0M_fu, rk_by]
                refine z_al0 eX12_movePeople_208 ?_
                refine z_il1 eX12_movePeople_209 ?_
                refine z_ki eX12_movePeople_210 ?_
                refine z_iaddN eX12_movePeople_211 (by omega) (by omega) ?_
                refine z_il2 eX12_movePeople_212 ?_
                refine z_il5 eX12_movePeople_213 ?_
                refine z_abs (y := 0) eX12_movePeople_215 lX12_384 (by omega) (Nat.le_of_ble_eq_true rfl) (by omega) ?_
                rw [show (if 0 ≤ byK k then byK k else -byK k) = absI (byK k) from rfl]
                refine z_iaddN eX12_movePeople_218 (by omega) (by omega) ?_
                refine z_il3 eX12_movePeople_219 ?_
                refine z_il5 eX12_movePeople_220 ?_
                refine z_abs (y := 0) eX12_movePeople_222 lX12_384 (by omega) (Nat.le_of_ble_eq_true rfl) (by omega) ?_
                rw [show (if 0 ≤ byK k then byK k else -byK k) = absI (byK k) from rfl]
                refine z_al0 eX12_movePeople_225 ?_
                refine z_ga eX12_movePeople_226 fX12_35 zs117 (t := 122) rfl ?_
                refine z_ki eX12_movePeople_229 ?_
                refine z_il1 eX12_movePeople_231 ?_
                refine z_iaddN eX12_movePeople_232 (by omega) (by omega) ?_
                refine zr_iN eX12_movePeople_233 zs122 (j := 60 + s) (by omega) (by omega) ?_
                rw [zup_off (by decide), zup_off (by decide), d60]
                refine z_imulN eX12_movePeople_234 (by omega) (by omega) ?_
                refine z_iaddN eX12_movePeople_235 (by omega) (by omega) ?_
                rw [show (s : Int) + 1 = ((s + 1 : Nat) : Int) by omega, ← tot_fu, ← cst_fu]
                refine zc_vv3 eX12_movePeople_236 lX12_386 tX12_movePeople zs117 (by omega) (Nat.le_of_ble_eq_true rfl) (IH (s + 1) (fu p s (byK k)) _ (by omega) hMn hFn (by rw [tot_fu]; omega) hBn) ?_
                rintro g2 ⟨Hg2, HB2, hm2⟩
                refine z_incN4 eX12_movePeople_239 zn0 (by omega) (by omega) ?_
                refine z_goto eX12_movePeople_242 rfl ?_
                refine z_fg5 ?_
                obtain ⟨n1, nn, n7, n8⟩ := Hg2
                refine ih (q - 1) (by omega) (k + 1) g2 (by omega) ⟨n1, nn, fun j hj => ?_, fun j j1 j2 => ?_⟩ (((hmf.up (by omega) (by omega) rfl).up (by omega) (by omega) rfl).tr hm2) ?_
                · have := n7 j (by omega)
                  rw [show fu p s (byK k) j = p j from if_neg (by omega)] at this
                  exact this
                · exact n8 j j1 j2
                · have e := rk_by k
                  refine isB_iff (fun z => ?_) HB2
                  rw [← P1M_fu, e]
              · refine z_goto eX12_movePeople_179 rfl ?_
                refine z_incN4 eX12_movePeople_239 zn0 (by omega) (by omega) ?_
                refine z_goto eX12_movePeople_242 rfl ?_
                refine z_fg5 ?_
                refine ih (q - 1) (by omega) (k + 1) g (by omega) Hg hmf ?_
                refine isB_skip HBg (fun z hz => ⟨hz.1, hz.2.imp id (fun y => ⟨y.1, by omega⟩)⟩) (fun z hz => Or.inl ⟨hz.1, ?_⟩)
                rcases hz.2 with y | ⟨y1, y2⟩
                · exact Or.inl y
                · refine Or.inr ⟨y1, ?_⟩
                  by_cases e : rk (z s) = k
                  · exfalso
                    have ez : z s = byK k := rk_inj (by rw [e, rk_by])
                    have fz := hz.1.1 s (by omega)
                    rw [ez] at fz
                    unfold fe1 at fz
                    have := (fz.2 (by omega)).2
                    omega
                  · omega
        · refine z_al0 eX12_movePeople_123 ?_
          refine z_gi eX12_movePeople_124 fX12_369 zs117 ?_
          refine z_ki eX12_movePeople_127 ?_
          rw [m5]
          refine z_iand eX12_movePeople_128 ?_
          refine z_ieq eX12_movePeople_129 rfl (fun c129 => ?_) (fun c129 => ?_)
          · refine z_incN4 eX12_movePeople_239 zn0 (by omega) (by omega) ?_
            refine z_goto eX12_movePeople_242 rfl ?_
            refine z_fg5 ?_
            refine ih (q - 1) (by omega) (k + 1) g (by omega) Hg hmf ?_
            refine isB_skip HBg (fun z hz => ⟨hz.1, hz.2.imp id (fun y => ⟨y.1, by omega⟩)⟩) (fun z hz => Or.inl ⟨hz.1, ?_⟩)
            rcases hz.2 with y | ⟨y1, y2⟩
            · exact Or.inl y
            · refine Or.inr ⟨y1, ?_⟩
              by_cases e : rk (z s) = k
              · exfalso
                have ez : z s = byK k := rk_inj (by rw [e, rk_by])
                have fz := hz.1.1 s (by omega)
                rw [ez] at fz
                unfold fe1 at fz
                have := (fz.1 (by omega)).1
                omega
              · omega
          · refine z_il5 eX12_movePeople_132 ?_
            refine z_al0 eX12_movePeople_134 ?_
            refine z_ga eX12_movePeople_135 fX12_35 zs117 (t := 122) rfl ?_
            refine z_ki eX12_movePeople_138 ?_
            refine z_il1 eX12_movePeople_140 ?_
            refine z_iaddN eX12_movePeople_141 (by omega) (by omega) ?_
            refine zr_iN eX12_movePeople_142 zs122 (j := 40 + s) (by omega) (by omega) ?_
            rw [d40]
            refine z_cle eX12_movePeople_143 rfl (fun c143 => ?_) (fun c143 => ?_)
            · refine z_il5 eX12_movePeople_149 ?_
              refine z_ige eX12_movePeople_151 rfl (fun c151 => ?_) (fun c151 => ?_)
              · have hfe : fe1 D kd s (byK k) := by unfold fe1; exact ⟨fun z => ⟨by omega, by omega⟩, fun z => ⟨by omega, by omega⟩⟩
                have hv1 := Int.mul_nonneg hab.1 hbs.2.2.2.1
                have hv2 := Int.mul_le_mul_of_nonneg_left hbs.2.2.2.2 hab.1
                refine z_al0 eX12_movePeople_182 ?_
                refine z_ga eX12_movePeople_183 fX12_77 zs117 (t := 136) rfl ?_
                refine z_il1 eX12_movePeople_186 ?_
                refine z_il5 eX12_movePeople_187 ?_
                refine zs_iN eX12_movePeople_189 zs136 (j := s) (by omega) (by omega) ?_
                refine z_al0 eX12_movePeople_190 ?_
                refine z_ga eX12_movePeople_191 fX12_41 zs117 (t := 124) rfl ?_
                refine z_il1 eX12_movePeople_194 ?_
                refine z_al0 eX12_movePeople_195 ?_
                refine z_ga eX12_movePeople_196 fX12_35 zs117 (t := 122) rfl ?_
                refine z_ki eX12_movePeople_199 ?_
                refine z_il1 eX12_movePeople_201 ?_
                refine z_iaddN eX12_movePeople_202 (by omega) (by omega) ?_
                refine zr_iN eX12_movePeople_203 zs122 (j := 20 + s) (by omega) (by omega) ?_
                rw [zup_off (by decide), d20]
                refine z_il5 eX12_movePeople_204 ?_
                refine z_iaddN eX12_movePeople_206 (by omega) (by omega) ?_
                refine zs_iN eX12_movePeople_207 zs124 (j := s) (by omega) (by omega) ?_
                have z117 : ∀ i, zup (zup g 136 s (byK k)) 124 s (D (20 + s) + byK k) 117 i = g 117 i := fun i => by rw [zup_off (by decide), zup_off (by decide)]
                have hMn : mP D a wn kd most ch (s + 1) (s + 1) (fu p s (byK k)) (zup (zup g 136 s (byK k)) 124 s (D (20 + s) + byK k)) := by
                  refine ⟨by rw [zup_off (by decide), zup_off (by decide)]; exact m1, by rw [z117, z117, z117, z117, z117]; exact ⟨m2, m3, m4, m5, m6⟩, fun j hj => ?_, fun j j1 j2 => by rw [zup_ne (by omega), zup_off (by decide)]; exact m8 j j1 j2⟩
                  unfold fu
                  by_cases e : j = s
                  · subst e
                    rw [if_pos rfl, zup_off (by decide), zup_at, zup_at]
                    exact ⟨rfl, rfl⟩
                  · rw [if_neg e, zup_off (show ¬ 136 = 124 by decide), zup_ne (by omega), zup_ne (by omega), zup_off (by decide)]
                    exact m7 j (by omega)
                have hFn : pF D kd (s + 1) (fu p s (byK k)) := fun j hj => by
                  unfold fu
                  by_cases e : j = s
                  · rw [if_pos e, e]; exact hfe
                  · rw [if_neg e]; exact hf j (by omega)
                have hBn : isB D (nS D) ch (P0M D a wn kd most (s + 1) (fu p s (byK k))) (zup (zup g 136 s (byK k)) 124 s (D (20 + s) + byK k) 117 46) (zup (zup g 136 s (byK k)) 124 s (D (20 + s) + byK k) 117 47) (zup (zup g 136 s (byK k)) 124 s (D (20 + s) + byK k) 137) := by
                  rw [z117, z117, zup_off (show ¬ 137 = 124 by decide), zup_off (show ¬ 137 = 136 by decide)]
                  refine isB_iff (fun z => ?_) HBg
                  rw [P0M_fu, rk_by]
                refine z_al0 eX12_movePeople_208 ?_
                refine z_il1 eX12_movePeople_209 ?_
                refine z_ki eX12_movePeople_210 ?_
                refine z_iaddN eX12_movePeople_211 (by omega) (by omega) ?_
                refine z_il2 eX12_movePeople_212 ?_
                refine z_il5 eX12_movePeople_213 ?_
                refine z_abs (y := 0) eX12_movePeople_215 lX12_384 (by omega) (Nat.le_of_ble_eq_true rfl) (by omega) ?_
                rw [show (if 0 ≤ byK k then byK k else -byK k) = absI (byK k) from rfl]
                refine z_iaddN eX12_movePeople_218 (by omega) (by omega) ?_
                refine z_il3 eX12_movePeople_219 ?_
                refine z_il5 eX12_movePeople_220 ?_
                refine z_abs (y := 0) eX12_movePeople_222 lX12_384 (by omega) (Nat.le_of_ble_eq_true rfl) (by omega) ?_
                rw [show (if 0 ≤ byK k then byK k else -byK k) = absI (byK k) from rfl]
                refine z_al0 eX12_movePeople_225 ?_
                refine z_ga eX12_movePeople_226 fX12_35 zs117 (t := 122) rfl ?_
                refine z_ki eX12_movePeople_229 ?_
                refine z_il1 eX12_movePeople_231 ?_
                refine z_iaddN eX12_movePeople_232 (by omega) (by omega) ?_
                refine zr_iN eX12_movePeople_233 zs122 (j := 60 + s) (by omega) (by omega) ?_
                rw [zup_off (by decide), zup_off (by decide), d60]
                refine z_imulN eX12_movePeople_234 (by omega) (by omega) ?_
                refine z_iaddN eX12_movePeople_235 (by omega) (by omega) ?_
                rw [show (s : Int) + 1 = ((s + 1 : Nat) : Int) by omega, ← tot_fu, ← cst_fu]
                refine zc_vv3 eX12_movePeople_236 lX12_386 tX12_movePeople zs117 (by omega) (Nat.le_of_ble_eq_true rfl) (IH (s + 1) (fu p s (byK k)) _ (by omega) hMn hFn (by rw [tot_fu]; omega) hBn) ?_
                rintro g2 ⟨Hg2, HB2, hm2⟩
                refine z_incN4 eX12_movePeople_239 zn0 (by omega) (by omega) ?_
                refine z_goto eX12_movePeople_242 rfl ?_
                refine z_fg5 ?_
                obtain ⟨n1, nn, n7, n8⟩ := Hg2
                refine ih (q - 1) (by omega) (k + 1) g2 (by omega) ⟨n1, nn, fun j hj => ?_, fun j j1 j2 => ?_⟩ (((hmf.up (by omega) (by omega) rfl).up (by omega) (by omega) rfl).tr hm2) ?_
                · have := n7 j (by omega)
                  rw [show fu p s (byK k) j = p j from if_neg (by omega)] at this
                  exact this
                · exact n8 j j1 j2
                · have e := rk_by k
                  refine isB_iff (fun z => ?_) HB2
                  rw [← P1M_fu, e]
              · refine z_al0 eX12_movePeople_154 ?_
                refine z_gi eX12_movePeople_155 fX12_369 zs117 ?_
                refine z_ki eX12_movePeople_158 ?_
                rw [m5]
                refine z_iand eX12_movePeople_160 ?_
                refine z_ieq eX12_movePeople_161 rfl (fun c161 => ?_) (fun c161 => ?_)
                · refine z_incN4 eX12_movePeople_239 zn0 (by omega) (by omega) ?_
                  refine z_goto eX12_movePeople_242 rfl ?_
                  refine z_fg5 ?_
                  refine ih (q - 1) (by omega) (k + 1) g (by omega) Hg hmf ?_
                  refine isB_skip HBg (fun z hz => ⟨hz.1, hz.2.imp id (fun y => ⟨y.1, by omega⟩)⟩) (fun z hz => Or.inl ⟨hz.1, ?_⟩)
                  rcases hz.2 with y | ⟨y1, y2⟩
                  · exact Or.inl y
                  · refine Or.inr ⟨y1, ?_⟩
                    by_cases e : rk (z s) = k
                    · exfalso
                      have ez : z s = byK k := rk_inj (by rw [e, rk_by])
                      have fz := hz.1.1 s (by omega)
                      rw [ez] at fz
                      unfold fe1 at fz
                      have := (fz.2 (by omega)).1
                      omega
                    · omega
                · refine z_il5 eX12_movePeople_164 ?_
                  refine z_inegN eX12_movePeople_166 (by omega) ?_
                  refine z_al0 eX12_movePeople_167 ?_
                  refine z_ga eX12_movePeople_168 fX12_35 zs117 (t := 122) rfl ?_
                  refine z_ki eX12_movePeople_171 ?_
                  refine z_il1 eX12_movePeople_173 ?_
                  refine z_iaddN eX12_movePeople_174 (by omega) (by omega) ?_
                  refine zr_iN eX12_movePeople_175 zs122 (j := 20 + s) (by omega) (by omega) ?_
                  rw [d20]
                  refine z_cle eX12_movePeople_176 rfl (fun c176 => ?_) (fun c176 => ?_)
                  · have hfe : fe1 D kd s (byK k) := by unfold fe1; exact ⟨fun z => ⟨by omega, by omega⟩, fun z => ⟨by omega, by omega⟩⟩
                    have hv1 := Int.mul_nonneg hab.1 hbs.2.2.2.1
                    have hv2 := Int.mul_le_mul_of_nonneg_left hbs.2.2.2.2 hab.1
                    refine z_al0 eX12_movePeople_182 ?_
                    refine z_ga eX12_movePeople_183 fX12_77 zs117 (t := 136) rfl ?_
                    refine z_il1 eX12_movePeople_186 ?_
                    refine z_il5 eX12_movePeople_187 ?_
                    refine zs_iN eX12_movePeople_189 zs136 (j := s) (by omega) (by omega) ?_
                    refine z_al0 eX12_movePeople_190 ?_
                    refine z_ga eX12_movePeople_191 fX12_41 zs117 (t := 124) rfl ?_
                    refine z_il1 eX12_movePeople_194 ?_
                    refine z_al0 eX12_movePeople_195 ?_
                    refine z_ga eX12_movePeople_196 fX12_35 zs117 (t := 122) rfl ?_
                    refine z_ki eX12_movePeople_199 ?_
                    refine z_il1 eX12_movePeople_201 ?_
                    refine z_iaddN eX12_movePeople_202 (by omega) (by omega) ?_
                    refine zr_iN eX12_movePeople_203 zs122 (j := 20 + s) (by omega) (by omega) ?_
                    rw [zup_off (by decide), d20]
                    refine z_il5 eX12_movePeople_204 ?_
                    refine z_iaddN eX12_movePeople_206 (by omega) (by omega) ?_
                    refine zs_iN eX12_movePeople_207 zs124 (j := s) (by omega) (by omega) ?_
                    have z117 : ∀ i, zup (zup g 136 s (byK k)) 124 s (D (20 + s) + byK k) 117 i = g 117 i := fun i => by rw [zup_off (by decide), zup_off (by decide)]
                    have hMn : mP D a wn kd most ch (s + 1) (s + 1) (fu p s (byK k)) (zup (zup g 136 s (byK k)) 124 s (D (20 + s) + byK k)) := by
                      refine ⟨by rw [zup_off (by decide), zup_off (by decide)]; exact m1, by rw [z117, z117, z117, z117, z117]; exact ⟨m2, m3, m4, m5, m6⟩, fun j hj => ?_, fun j j1 j2 => by rw [zup_ne (by omega), zup_off (by decide)]; exact m8 j j1 j2⟩
                      unfold fu
                      by_cases e : j = s
                      · subst e
                        rw [if_pos rfl, zup_off (by decide), zup_at, zup_at]
                        exact ⟨rfl, rfl⟩
                      · rw [if_neg e, zup_off (show ¬ 136 = 124 by decide), zup_ne (by omega), zup_ne (by omega), zup_off (by decide)]
                        exact m7 j (by omega)
                    have hFn : pF D kd (s + 1) (fu p s (byK k)) := fun j hj => by
                      unfold fu
                      by_cases e : j = s
                      · rw [if_pos e, e]; exact hfe
                      · rw [if_neg e]; exact hf j (by omega)
                    have hBn : isB D (nS D) ch (P0M D a wn kd most (s + 1) (fu p s (byK k))) (zup (zup g 136 s (byK k)) 124 s (D (20 + s) + byK k) 117 46) (zup (zup g 136 s (byK k)) 124 s (D (20 + s) + byK k) 117 47) (zup (zup g 136 s (byK k)) 124 s (D (20 + s) + byK k) 137) := by
                      rw [z117, z117, zup_off (show ¬ 137 = 124 by decide), zup_off (show ¬ 137 = 136 by decide)]
                      refine isB_iff (fun z => ?_) HBg
                      rw [P0M_fu, rk_by]
                    refine z_al0 eX12_movePeople_208 ?_
                    refine z_il1 eX12_movePeople_209 ?_
                    refine z_ki eX12_movePeople_210 ?_
                    refine z_iaddN eX12_movePeople_211 (by omega) (by omega) ?_
                    refine z_il2 eX12_movePeople_212 ?_
                    refine z_il5 eX12_movePeople_213 ?_
                    refine z_abs (y := 0) eX12_movePeople_215 lX12_384 (by omega) (Nat.le_of_ble_eq_true rfl) (by omega) ?_
                    rw [show (if 0 ≤ byK k then byK k else -byK k) = absI (byK k) from rfl]
                    refine z_iaddN eX12_movePeople_218 (by omega) (by omega) ?_
                    refine z_il3 eX12_movePeople_219 ?_
                    refine z_il5 eX12_movePeople_220 ?_
                    refine z_abs (y := 0) eX12_movePeople_222 lX12_384 (by omega) (Nat.le_of_ble_eq_true rfl) (by omega) ?_
                    rw [show (if 0 ≤ byK k then byK k else -byK k) = absI (byK k) from rfl]
                    refine z_al0 eX12_movePeople_225 ?_
                    refine z_ga eX12_movePeople_226 fX12_35 zs117 (t := 122) rfl ?_
                    refine z_ki eX12_movePeople_229 ?_
                    refine z_il1 eX12_movePeople_231 ?_
                    refine z_iaddN eX12_movePeople_232 (by omega) (by omega) ?_
                    refine zr_iN eX12_movePeople_233 zs122 (j := 60 + s) (by omega) (by omega) ?_
                    rw [zup_off (by decide), zup_off (by decide), d60]
                    refine z_imulN eX12_movePeople_234 (by omega) (by omega) ?_
                    refine z_iaddN eX12_movePeople_235 (by omega) (by omega) ?_
                    rw [show (s : Int) + 1 = ((s + 1 : Nat) : Int) by omega, ← tot_fu, ← cst_fu]
                    refine zc_vv3 eX12_movePeople_236 lX12_386 tX12_movePeople zs117 (by omega) (Nat.le_of_ble_eq_true rfl) (IH (s + 1) (fu p s (byK k)) _ (by omega) hMn hFn (by rw [tot_fu]; omega) hBn) ?_
                    rintro g2 ⟨Hg2, HB2, hm2⟩
                    refine z_incN4 eX12_movePeople_239 zn0 (by omega) (by omega) ?_
                    refine z_goto eX12_movePeople_242 rfl ?_
                    refine z_fg5 ?_
                    obtain ⟨n1, nn, n7, n8⟩ := Hg2
                    refine ih (q - 1) (by omega) (k + 1) g2 (by omega) ⟨n1, nn, fun j hj => ?_, fun j j1 j2 => ?_⟩ (((hmf.up (by omega) (by omega) rfl).up (by omega) (by omega) rfl).tr hm2) ?_
                    · have := n7 j (by omega)
                      rw [show fu p s (byK k) j = p j from if_neg (by omega)] at this
                      exact this
                    · exact n8 j j1 j2
                    · have e := rk_by k
                      refine isB_iff (fun z => ?_) HB2
                      rw [← P1M_fu, e]
                  · refine z_goto eX12_movePeople_179 rfl ?_
                    refine z_incN4 eX12_movePeople_239 zn0 (by omega) (by omega) ?_
                    refine z_goto eX12_movePeople_242 rfl ?_
                    refine z_fg5 ?_
                    refine ih (q - 1) (by omega) (k + 1) g (by omega) Hg hmf ?_
                    refine isB_skip HBg (fun z hz => ⟨hz.1, hz.2.imp id (fun y => ⟨y.1, by omega⟩)⟩) (fun z hz => Or.inl ⟨hz.1, ?_⟩)
                    rcases hz.2 with y | ⟨y1, y2⟩
                    · exact Or.inl y
                    · refine Or.inr ⟨y1, ?_⟩
                      by_cases e : rk (z s) = k
                      · exfalso
                        have ez : z s = byK k := rk_inj (by rw [e, rk_by])
                        have fz := hz.1.1 s (by omega)
                        rw [ez] at fz
                        unfold fe1 at fz
                        have := (fz.2 (by omega)).2
                        omega
                      · omega
            · refine z_goto eX12_movePeople_146 rfl ?_
              refine z_incN4 eX12_movePeople_239 zn0 (by omega) (by omega) ?_
              refine z_goto eX12_movePeople_242 rfl ?_
              refine z_fg5 ?_
              refine ih (q - 1) (by omega) (k + 1) g (by omega) Hg hmf ?_
              refine isB_skip HBg (fun z hz => ⟨hz.1, hz.2.imp id (fun y => ⟨y.1, by omega⟩)⟩) (fun z hz => Or.inl ⟨hz.1, ?_⟩)
              rcases hz.2 with y | ⟨y1, y2⟩
              · exact Or.inl y
              · refine Or.inr ⟨y1, ?_⟩
                by_cases e : rk (z s) = k
                · exfalso
                  have ez : z s = byK k := rk_inj (by rw [e, rk_by])
                  have fz := hz.1.1 s (by omega)
                  rw [ez] at fz
                  unfold fe1 at fz
                  have := (fz.1 (by omega)).2
                  omega
                · omega
theorem r_mpS (D : Nat → Int) (hb : dB D) (hst : D 2 < ((2 ^ nN D : Nat) : Int)) (h12 : nS D ≤ 12) (a wn kd most ch : Int) (hkd : kd = 4 ∨ kd = 8 ∨ kd = 12) (hmo : 0 ≤ most ∧ most ≤ 5) (r : Nat) (IH : ∀ (s : Nat) (p : Nat → Int) (h : zHp), s + r = nS D → mP D a wn kd most ch s s p h → pF D kd s p → totR p s ≤ most → isB D (nS D) ch (P0M D a wn kd most s p) (h 117 46) (h 117 47) (h 137) → zCv mX12_movePeople (8 + r) [zA 117, zI s, zI (totR p s), zI (cstR D p s)] h (fun h' => mP D a wn kd most ch s s p h' ∧ isB D (nS D) ch (P1M D a wn kd most s p) (h' 117 46) (h' 117 47) (h' 137) ∧ zMf h h')) (s : Nat) (p : Nat → Int) (h : zHp) (hs : s + (r + 1) = nS D) (Hm : mP D a wn kd most ch s s p h) (hf : pF D kd s p) (ht : totR p s ≤ most) (HB : isB D (nS D) ch (P0M D a wn kd most s p) (h 117 46) (h 117 47) (h 137)) : zCv mX12_movePeople (8 + (r + 1)) [zA 117, zI s, zI (totR p s), zI (cstR D p s)] h (fun h' => mP D a wn kd most ch s s p h' ∧ isB D (nS D) ch (P1M D a wn kd most s p) (h' 117 46) (h' 117 47) (h' 137) ∧ zMf h h') := by
  refine z_enter [zA 117, zI s, zI (totR p s), zI (cstR D p s), zU, zU] (by decide +kernel) (Nat.le_of_ble_eq_true rfl) rfl (fun hra hrg => ?_)
  obtain ⟨m1, ⟨m2, m3, m4, m5, m6⟩, m7, m8⟩ := id Hm
  have hS := nS_eq hb
  have hb2 := hb.2.2.1
  have d1 : h 122 1 = (nS D : Int) := by rw [m1]; exact hS
  have htn := totR_nn p s
  refine z_al0 eX12_movePeople_0 ?_
  refine z_il2 eX12_movePeople_1 ?_
  refine z_il3 eX12_movePeople_2 ?_
  refine zc_vi2 eX12_movePeople_3 lX12_372 tX12_isBetter zs117 (by omega) (Nat.le_of_ble_eq_true rfl) (r_isBetter h ch m4 _ _) ?_
  rintro _ _ ⟨rfl, rfl⟩ -
  refine z_ine eX12_movePeople_6 rfl (fun c6 => ?_) (fun c6 => ?_)
  · have z6 := iteT c6
    replace z6 : betD _ _ _ _ _ := z6
    clear c6
    refine z_il1 eX12_movePeople_10 ?_
    refine z_al0 eX12_movePeople_11 ?_
    refine z_ga eX12_movePeople_12 fX12_35 zs117 (t := 122) rfl ?_
    refine z_ki eX12_movePeople_15 ?_
    refine zr_iN eX12_movePeople_16 zs122 (j := 1) (by omega) (by omega) ?_
    refine z_cne eX12_movePeople_17 rfl (fun c17 => ?_) (fun c17 => ?_)
    · refine z_ki eX12_movePeople_78 ?_
      refine z_is4 eX12_movePeople_79 zn0 ?_
      exact r_mp_l D hb hst h12 a wn kd most ch hkd hmo r IH s p h hs hf ht _ rfl (2 * (most - totR p s) + 1).toNat 0 h (by omega) ⟨m1, ⟨m2, m3, m4, m5, m6⟩, m7, fun j j1 j2 => m8 j (by omega) j2⟩ zMf.rf (isB_iff (fun z => ⟨fun hz => ⟨hz.1, hz.2.elim id (fun y => absurd y.2 (Nat.not_lt_zero _))⟩, fun hz => ⟨hz.1, Or.inl hz.2⟩⟩) HB)
    · exfalso; omega
  · have z6 := iteF c6
    refine ze_v eX12_movePeople_9 rfl ?_
    exact ⟨Hm, skip1 hb (by omega) HB z6, zMf.rf⟩
theorem r_mp (D : Nat → Int) (hb : dB D) (hst : D 2 < ((2 ^ nN D : Nat) : Int)) (h12 : nS D ≤ 12) (a wn kd most ch : Int) (hkd : kd = 4 ∨ kd = 8 ∨ kd = 12) (hmo : 0 ≤ most ∧ most ≤ 5) : ∀ (r s : Nat) (p : Nat → Int) (h : zHp), s + r = nS D → mP D a wn kd most ch s s p h → pF D kd s p → totR p s ≤ most → isB D (nS D) ch (P0M D a wn kd most s p) (h 117 46) (h 117 47) (h 137) → zCv mX12_movePeople (8 + r) [zA 117, zI s, zI (totR p s), zI (cstR D p s)] h (fun h' => mP D a wn kd most ch s s p h' ∧ isB D (nS D) ch (P1M D a wn kd most s p) (h' 117 46) (h' 117 47) (h' 137) ∧ zMf h h') := by
  intro r
  induction r with
  | zero => intro s p h h1 h2 h3 h4 h5; exact r_mp0 D hb hst h12 a wn kd most ch hkd hmo s p h h1 h2 h3 h4 h5
  | succ r ih => intro s p h h1 h2 h3 h4 h5; exact r_mpS D hb hst h12 a wn kd most ch hkd hmo r ih s p h h1 h2 h3 h4 h5
