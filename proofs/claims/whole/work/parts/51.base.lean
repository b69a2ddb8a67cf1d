-- frames of calls, and simple calls (written by wip/tools/specR2.py)
theorem zCall.wk {M : zM} {k : Nat} {b : Nat × Nat} {as : List zV} {n : Nat} {h : zHp} {Q Q' : Option zV → Nat → zHp → Prop} (hq : ∀ r n h, Q' r n h → Q r n h) (H : zCall M k b as n h Q') : zCall M k b as n h Q := by
  intro l G d hk p e h1 h2 h3 s m args below hf ha hP hK
  obtain ⟨n1, o, a1, a2, a3, ⟨⟨⟨r, n2, h4, e1, e2, e3, e4⟩, e5⟩, a5⟩⟩ := H l G d hk p e h1 h2 h3 s m args below hf ha hP hK
  exact ⟨n1, o, a1, a2, a3, ⟨⟨⟨r, n2, h4, e1, e2, hq _ _ _ e3, e4⟩, e5⟩, a5⟩⟩
theorem zCi_wk {M : zM} {k : Nat} {as : List zV} {h : zHp} {Q Q' : Int → zHp → Prop} (H : zCi M k as h Q') (hq : ∀ v h', Q' v h' → Q v h') : zCi M k as h Q := H.wk (fun r n h1 ⟨a, v, b, c⟩ => ⟨a, v, b, hq v h1 c⟩)
theorem zCv_wk {M : zM} {k : Nat} {as : List zV} {h : zHp} {Q Q' : zHp → Prop} (H : zCv M k as h Q') (hq : ∀ h', Q' h' → Q h') : zCv M k as h Q := H.wk (fun r n h1 ⟨a, b, c⟩ => ⟨a, b, hq h1 c⟩)
theorem zCall.mono {M : zM} {k k' : Nat} {b : Nat × Nat} {as : List zV} {n : Nat} {h : zHp} {Q : Option zV → Nat → zHp → Prop} (H : zCall M k b as n h Q) (hk : k ≤ k') : zCall M k' b as n h Q := fun l G d hd => H l G d (Nat.le_trans hk hd)
theorem iteT {p : Prop} [Decidable p] (h : ¬ (if p then (1 : Int) else 0) = 0) : p := by
  by_cases q : p
  · exact q
  · exact absurd (if_neg q) h
theorem iteF {p : Prop} [Decidable p] (h : (if p then (1 : Int) else 0) = 0) : ¬ p := fun q => by
  rw [if_pos q] at h
  cases h
theorem ite01 {p : Prop} [Decidable p] : (if p then (1 : Int) else 0) = 0 ∨ (if p then (1 : Int) else 0) = 1 := by
  by_cases q : p
  · exact Or.inr (if_pos q)
  · exact Or.inl (if_neg q)
/-- the class's scratch alone has changed -/
def zXf (h g : zHp) : Prop := zEx [] h g ∧ (∀ a : Nat, 117 ≤ a → g a = h a) ∧ g 0 0 = h 0 0
def zMf (h g : zHp) : Prop := zEx [] h g ∧ (∀ a : Nat, a < 117 → g a = h a) ∧ g 117 0 = h 117 0
theorem zXf.rf {h : zHp} : zXf h h := ⟨zEx.rf, fun _ _ => rfl, rfl⟩
theorem zMf.rf {h : zHp} : zMf h h := ⟨zEx.rf, fun _ _ => rfl, rfl⟩
theorem zXf.tr {h g f : zHp} (H : zXf h g) (H2 : zXf g f) : zXf h f := ⟨H.1.tr H2.1, fun a ha => (H2.2.1 a ha).trans (H.2.1 a ha), H2.2.2.trans H.2.2⟩
theorem zMf.tr {h g f : zHp} (H : zMf h g) (H2 : zMf g f) : zMf h f := ⟨H.1.tr H2.1, fun a ha => (H2.2.1 a ha).trans (H.2.1 a ha), H2.2.2.trans H.2.2⟩
theorem zXf.up {h g : zHp} (H : zXf h g) {a i : Nat} {v : Int} (ha : a < 117) (h0 : ¬ (a = 0 ∧ i = 0)) (hq : obc a i = 0) : zXf h (zup g a i v) := ⟨H.1.up (Or.inl hq), fun b hb => (zup_off (by omega)).trans (H.2.1 b hb), (zup_ne (by omega)).trans H.2.2⟩
theorem zMf.up {h g : zHp} (H : zMf h g) {a i : Nat} {v : Int} (ha : 117 ≤ a) (h0 : ¬ (a = 117 ∧ i = 0)) (hq : obc a i = 0) : zMf h (zup g a i v) := ⟨H.1.up (Or.inl hq), fun b hb => (zup_off (by omega)).trans (H.2.1 b hb), (zup_ne (by omega)).trans H.2.2⟩
theorem zXf.fr {h g f : zHp} (H : zXf h g) {c : Nat} (F : zFr c g f) (hc : 0 < c ∧ c < 117) (hq : ∀ i, obc c i = 0) : zXf h f := ⟨H.1.fr (fun i => Or.inl (hq i)) F, fun b hb => (F b (by omega)).trans (H.2.1 b hb), by rw [F 0 (by omega)]; exact H.2.2⟩
theorem zMf.fr {h g f : zHp} (H : zMf h g) {c : Nat} (F : zFr c g f) (hc : 117 < c) (hq : ∀ i, obc c i = 0) : zMf h f := ⟨H.1.fr (fun i => Or.inl (hq i)) F, fun b hb => (F b (by omega)).trans (H.2.1 b hb), by rw [F 117 (by omega)]; exact H.2.2⟩
theorem zMf.cA {h g : zHp} (H : zMf h g) (D : Nat → Int) (s : Nat) (x : Int) : zMf h (cA g D s x) := ⟨zEx_cA H.1 D s x, fun a ha => (cA_off (by omega) (by omega)).trans (H.2.1 a ha), (cA_f (by omega)).trans H.2.2⟩
theorem pX0_f {h g : zHp} {q : Int × Int} {v y : Int} (H : zXf h g) (h1 : q = (v, y)) : pX0 h q v (zup g 0 0 y) := by
  subst h1
  exact ⟨rfl, zup_at _ _ _ _, fun a ha => (zup_off (by omega)).trans (H.2.1 a ha), H.1.up (Or.inl rfl)⟩
theorem m_g {h g : zHp} (hg : zup (zup h 117 1 0) 117 0 0 = g) : (∀ a : Nat, ¬ a = 117 → g a = h a) ∧ (∀ i : Nat, ¬ i = 0 → ¬ i = 1 → g 117 i = h 117 i) ∧ g 117 0 = 0 := by
  subst hg
  exact ⟨fun a ha => h00_off ha, fun i h0 h1 => h00_117 h0 h1, zup_at _ _ _ _⟩
theorem pM0_f {h g f : zHp} {q : Int × Int} {v : Int} (hg : zup (zup h 117 1 0) 117 0 0 = g) (H : zMf g f) (h1 : q = (v, 0)) : pM0 h q v f := by
  subst hg
  subst h1
  refine ⟨rfl, H.2.2, fun a ha => (H.2.1 a ha).trans (h00_off (by omega)), zEx.tr ((zEx.rf.up (Or.inl rfl)).up (Or.inl rfl)) H.1⟩
theorem pM0_fr {h g f : zHp} {q : Int × Int} {v y : Int} (hg : zup (zup h 117 1 0) 117 0 0 = g) (H : zMf g f) (h1 : q = (v, y)) : pM0 h q v (zup f 117 0 y) := by
  subst hg
  subst h1
  refine ⟨rfl, zup_at _ _ _ _, fun a ha => (zup_off (by omega)).trans ((H.2.1 a ha).trans (h00_off (by omega))), zEx.tr ((zEx.rf.up (Or.inl rfl)).up (Or.inl rfl)) (H.1.up (Or.inl rfl))⟩
theorem zbit {d x : Int} (h0 : 0 ≤ d) (h1 : d < 2147483648) (h2 : 0 ≤ x) (h3 : x < 32) : zand (zshr d x) 1 = bv d.toNat x.toNat := by
  obtain ⟨n, rfl⟩ := Int.eq_ofNat_of_zero_le h0
  exact kb_bv (by omega) h2 h3
theorem bv_T {s k : Nat} (h : ¬ bv s k = 0) : s.testBit k = true := by
  unfold bv at h
  exact iteT h
theorem bv_F {s k : Nat} (h : bv s k = 0) : s.testBit k = false := by
  unfold bv at h
  simpa using iteF h
/-- who wins with the voters w -/
def winW (D w : Nat → Int) (set : Nat) : Int := winOf D w (sumN w (nS D)) set
theorem winW_congr {D w w' : Nat → Int} (hw : ∀ s, s < nS D → w s = w' s) (set : Nat) : winW D w set = winW D w' set := by
  unfold winW
  rw [winOf_congr hw, sumN_congr (nS D) hw]
theorem winW_b {D : Nat → Int} (hb : dB D) (w : Nat → Int) (set : Nat) : -1 ≤ winW D w set ∧ winW D w set < nN D ∧ winW D w set < 8 := winOf_b hb w _ set
theorem x_winW (h : zHp) (H : rHR h) (va : Nat) (hva : zSH[va]? = some (20, 20)) (hv51 : ¬ va = 51) (w : Nat → Int) (hw : ∀ s, s < nS (h 122) → h va s = w s) (hvb : vB (h 122) w) (set : Nat) (hset : set < 2 ^ nN (h 122)) : zCi mX2_winnerOf 3 [zA 50, zI set, zA va] h (fun v h' => winW (h 122) w set = v ∧ zFr 51 h h') :=
  zCi_wk (x_winner (h 122) (h va) (pX h 4) H.1.1 H.1.2.2.2.2.2.2.2.2 (vB_congr (fun s hs => (hw s hs).symm) hvb) va hva hv51 h (hallR_hX H.1) (ruleR_rX H.2) rfl set hset) (fun v h' q => ⟨(winW_congr (fun s hs => (hw s hs).symm) set).trans q.1, q.2⟩)
theorem x_winN (h : zHp) (H : rHR h) (set : Nat) (hset : set < 2 ^ nN (h 122)) : zCi mX2_winnerOf 3 [zA 50, zI set, zA 9] h (fun v h' => winNow (h 122) set = v ∧ zFr 51 h h') := x_winW h H 9 rfl (by decide) (inOf (h 122)) (fun s hs => (H.1.2.2.2.2.2.2.1 s hs).1) (inOf_b H.1.1) set hset
theorem r_winW (h : zHp) (D w : Nat → Int) (hD : h 122 = D) (hb : dB D) (hvb : vB D w) (hw : ∀ s, s < nS D → h 124 s = w s) (hV : h 117 25 = sumN w (nS D)) (set : Nat) (hset : set < 2 ^ nN D) : zCi mX12_winner 6 [zA 117, zI set] h (fun v h' => winW D w set = v ∧ zFr 125 h h') :=
  zCi_wk (r_winner h D (h 124) hD rfl hb (vB_congr (fun s hs => (hw s hs).symm) hvb) (sumN w (nS D)) hV (vB_sum3960 hb hvb) set hset) (fun v h' q => ⟨(winOf_congr (fun s hs => (hw s hs).symm) _ set).trans q.1, q.2⟩)
theorem rHR.xf {h g : zHp} (H : rHR h) (F : zXf h g) : rHR g := rHR_oc (F.1 5 (by omega) (by omega) (by simp)) H
theorem stN {D : Nat → Int} (hb : dB D) : D 2 = ((D 2).toNat : Int) := by have := hb.2.2.1; omega
theorem stL {D : Nat → Int} (hb : dB D) (h : D 2 < ((2 ^ nN D : Nat) : Int)) : (D 2).toNat < 2 ^ nN D := by have := hb.2.2.1; omega
theorem p2le {n : Nat} (h : n ≤ 8) : 2 ^ n ≤ 256 := Nat.pow_le_pow_right (by omega) h
theorem x_isName (h : zHp) (H : rHR h) (x : Int) : zCi mX11_isName 0 [zA 0, zI x] h (fun v h' => (if 0 ≤ x ∧ x < h 122 0 then 1 else 0) = v ∧ h = h') := by
  refine z_enter [zA 0, zI x] (by decide +kernel) (Nat.le_of_ble_eq_true rfl) rfl (fun hra hrg => ?_)
  obtain ⟨⟨hb, hst, e0, e1, e7, ek, es, eo, hp⟩, hru⟩ := id H
  have hN := nN_eq hb
  have hS := nS_eq hb
  have hN8 := nN_le hb
  have hS20 := nS_le hb
  have hb2 := hb.2.2.1
  refine z_il1 eX11_isName_0 ?_
  refine z_ilt eX11_isName_1 rfl (fun c1 => ?_) (fun c1 => ?_)
  · refine z_ki eX11_isName_19 ?_
    refine ze_z eX11_isName_20 rfl (by first | exact Or.inl rfl | exact Or.inr rfl) ?_
    refine ⟨?_, rfl⟩
    first | (rw [if_pos (by omega)]; done) | (rw [if_neg (by omega)]; done)
  · refine z_il1 eX11_isName_4 ?_
    refine z_al0 eX11_isName_5 ?_
    refine z_ga eX11_isName_6 fX11_25 zs0 (t := 4) rfl ?_
    refine z_gi eX11_isName_9 fX11_120 zs4 ?_
    refine z_cge eX11_isName_12 rfl (fun c12 => ?_) (fun c12 => ?_)
    · refine z_ki eX11_isName_19 ?_
      refine ze_z eX11_isName_20 rfl (by first | exact Or.inl rfl | exact Or.inr rfl) ?_
      refine ⟨?_, rfl⟩
      first | (rw [if_pos (by omega)]; done) | (rw [if_neg (by omega)]; done)
    · refine z_ki eX11_isName_15 ?_
      refine z_goto eX11_isName_16 rfl ?_
      refine ze_z eX11_isName_20 rfl (by first | exact Or.inl rfl | exact Or.inr rfl) ?_
      refine ⟨?_, rfl⟩
      first | (rw [if_pos (by omega)]; done) | (rw [if_neg (by omega)]; done)
theorem x_isSort (h : zHp) (H : rHR h) (x : Int) : zCi mX11_isSort 0 [zA 0, zI x] h (fun v h' => (if 0 ≤ x ∧ x < h 122 1 then 1 else 0) = v ∧ h = h') := by
  refine z_enter [zA 0, zI x] (by decide +kernel) (Nat.le_of_ble_eq_true rfl) rfl (fun hra hrg => ?_)
  obtain ⟨⟨hb, hst, e0, e1, e7, ek, es, eo, hp⟩, hru⟩ := id H
  have hN := nN_eq hb
  have hS := nS_eq hb
  have hN8 := nN_le hb
  have hS20 := nS_le hb
  have hb2 := hb.2.2.1
  refine z_il1 eX11_isSort_0 ?_
  refine z_ilt eX11_isSort_1 rfl (fun c1 => ?_) (fun c1 => ?_)
  · refine z_ki eX11_isSort_19 ?_
    refine ze_z eX11_isSort_20 rfl (by first | exact Or.inl rfl | exact Or.inr rfl) ?_
    refine ⟨?_, rfl⟩
    first | (rw [if_pos (by omega)]; done) | (rw [if_neg (by omega)]; done)
  · refine z_il1 eX11_isSort_4 ?_
    refine z_al0 eX11_isSort_5 ?_
    refine z_ga eX11_isSort_6 fX11_25 zs0 (t := 4) rfl ?_
    refine z_gi eX11_isSort_9 fX11_123 zs4 ?_
    refine z_cge eX11_isSort_12 rfl (fun c12 => ?_) (fun c12 => ?_)
    · refine z_ki eX11_isSort_19 ?_
      refine ze_z eX11_isSort_20 rfl (by first | exact Or.inl rfl | exact Or.inr rfl) ?_
      refine ⟨?_, rfl⟩
      first | (rw [if_pos (by omega)]; done) | (rw [if_neg (by omega)]; done)
    · refine z_ki eX11_isSort_15 ?_
      refine z_goto eX11_isSort_16 rfl ?_
      refine ze_z eX11_isSort_20 rfl (by first | exact Or.inl rfl | exact Or.inr rfl) ?_
      refine ⟨?_, rfl⟩
      first | (rw [if_pos (by omega)]; done) | (rw [if_neg (by omega)]; done)
theorem x_votersIn_l (h : zHp) (H : rHR h) : ∀ (r s : Nat), s + r = nS (h 122) → zRW mX5_votersIn 0 (0, 0) 4 [zA 4, zI (sumN (inOf (h 122)) s), zI s] [] 143 h (zqi (fun v h' => allV (h 122) = v ∧ h = h')) := by
  obtain ⟨⟨hb, hst, e0, e1, e7, ek, es, eo, hp⟩, hru⟩ := id H
  have hN := nN_eq hb
  have hS := nS_eq hb
  have hN8 := nN_le hb
  have hS20 := nS_le hb
  have hb2 := hb.2.2.1
  intro r
  induction r using Nat.strongRecOn with
  | ind r ih =>
    intro s hs
    refine z_il2 eX5_votersIn_4 ?_
    refine z_al0 eX5_votersIn_5 ?_
    refine z_gi eX5_votersIn_6 fX5_51 zs4 ?_
    refine z_cge eX5_votersIn_9 rfl (fun c9 => ?_) (fun c9 => ?_)
    · refine z_il1 eX5_votersIn_27 ?_
      refine ze_i eX5_votersIn_28 rfl ?_
      have e : s = nS (h 122) := by omega
      subst e
      exact ⟨rfl, rfl⟩
    · refine z_il1 eX5_votersIn_12 ?_
      refine z_al0 eX5_votersIn_13 ?_
      refine z_ga eX5_votersIn_14 fX5_25 zs4 (t := 9) rfl ?_
      refine z_il2 eX5_votersIn_17 ?_
      refine zr_iN eX5_votersIn_18 zs9 (j := s) (by omega) (by omega) ?_
      have hv := inOf_b hb s (by omega)
      have hsum := vB_sum (inOf_b hb) (s := s) (by omega)
      unfold inOf at hv
      rw [(show h 9 s = h 122 (20 + s) from (es s (by omega)).1)]
      refine z_iaddN eX5_votersIn_19 (by omega) (by omega) ?_
      refine z_is1 eX5_votersIn_20 zn2 ?_
      refine z_incN2 eX5_votersIn_21 zn0 (by omega) (by omega) ?_
      refine z_goto eX5_votersIn_24 rfl ?_
      exact ih (r - 1) (by omega) (s + 1) (by omega)
theorem x_votersIn (h : zHp) (H : rHR h) : zCi mX5_votersIn 0 [zA 4] h (fun v h' => allV (h 122) = v ∧ h = h') := by
  refine z_enter [zA 4, zU, zU] (by decide +kernel) (Nat.le_of_ble_eq_true rfl) rfl (fun hra hrg => ?_)
  refine z_ki eX5_votersIn_0 ?_
  refine z_is1 eX5_votersIn_1 zn2 ?_
  refine z_ki eX5_votersIn_2 ?_
  refine z_is2 eX5_votersIn_3 zn0 ?_
  exact x_votersIn_l h H _ 0 (Nat.zero_add _)
theorem x_many (h : zHp) (H : rHR h) (x : Int) : zCi mX11_many 1 [zA 0, zI x] h (fun v h' => pX0 h (qMany (h 122) x) v h') := by
  refine z_enter [zA 0, zI x] (by decide +kernel) (Nat.le_of_ble_eq_true rfl) rfl (fun hra hrg => ?_)
  obtain ⟨⟨hb, hst, e0, e1, e7, ek, es, eo, hp⟩, hru⟩ := id H
  have hN := nN_eq hb
  have hS := nS_eq hb
  have hN8 := nN_le hb
  have hS20 := nS_le hb
  have hb2 := hb.2.2.1
  refine z_il1 eX11_many_0 ?_
  by_cases q1_0 : x = 0
  · refine zt_in 0 eX11_many_1 (by omega) (by decide) rfl (na := 36) rfl ?_
    refine z_al0 eX11_many_36 ?_
    refine z_al0 eX11_many_37 ?_
    refine z_ga eX11_many_38 fX11_25 zs0 (t := 4) rfl ?_
    refine z_gi eX11_many_41 fX11_120 zs4 ?_
    refine zc_vi1 eX11_many_44 lX11_202 tX11_answer zs0 (by decide) (Nat.le_of_ble_eq_true rfl) (x_answer _ _) ?_
    rintro _ _ ⟨rfl, rfl⟩ -
    refine ze_i eX11_many_47 rfl ?_
    exact pX0_f zXf.rf (by unfold qMany; (repeat' split) <;> first | (exfalso; omega) | rfl | (rw [e0]; done))
  by_cases q1_1 : x = 1
  · refine zt_in 1 eX11_many_1 (by omega) (by decide) rfl (na := 48) rfl ?_
    refine z_al0 eX11_many_48 ?_
    refine z_al0 eX11_many_49 ?_
    refine z_ga eX11_many_50 fX11_25 zs0 (t := 4) rfl ?_
    refine z_gi eX11_many_53 fX11_123 zs4 ?_
    refine zc_vi1 eX11_many_56 lX11_202 tX11_answer zs0 (by decide) (Nat.le_of_ble_eq_true rfl) (x_answer _ _) ?_
    rintro _ _ ⟨rfl, rfl⟩ -
    refine ze_i eX11_many_59 rfl ?_
    exact pX0_f zXf.rf (by unfold qMany; (repeat' split) <;> first | (exfalso; omega) | rfl | (rw [e7]; done))
  by_cases q1_2 : x = 2
  · refine zt_in 2 eX11_many_1 (by omega) (by decide) rfl (na := 60) rfl ?_
    refine z_al0 eX11_many_60 ?_
    refine z_al0 eX11_many_61 ?_
    refine z_ga eX11_many_62 fX11_25 zs0 (t := 4) rfl ?_
    refine zc_vi0 eX11_many_65 lX11_218 tX5_votersIn zs4 (by decide) (Nat.le_of_ble_eq_true rfl) (x_votersIn _ H) ?_
    rintro _ _ ⟨rfl, rfl⟩ -
    refine zc_vi1 eX11_many_68 lX11_202 tX11_answer zs0 (by decide) (Nat.le_of_ble_eq_true rfl) (x_answer _ _) ?_
    rintro _ _ ⟨rfl, rfl⟩ -
    refine ze_i eX11_many_71 rfl ?_
    exact pX0_f zXf.rf (by unfold qMany; (repeat' split) <;> first | (exfalso; omega) | rfl)
  by_cases q1_3 : x = 3
  · refine zt_in 3 eX11_many_1 (by omega) (by decide) rfl (na := 72) rfl ?_
    refine z_al0 eX11_many_72 ?_
    refine z_al0 eX11_many_73 ?_
    refine z_ga eX11_many_74 fX11_35 zs0 (t := 24) rfl ?_
    refine z_gi eX11_many_77 fX11_209 zs24 ?_
    refine zc_vi1 eX11_many_80 lX11_202 tX11_answer zs0 (by decide) (Nat.le_of_ble_eq_true rfl) (x_answer _ _) ?_
    rintro _ _ ⟨rfl, rfl⟩ -
    refine ze_i eX11_many_83 rfl ?_
    exact pX0_f zXf.rf (by unfold qMany; (repeat' split) <;> first | (exfalso; omega) | rfl | (rw [hru.1]; done))
  by_cases q1_4 : x = 4
  · refine zt_in 4 eX11_many_1 (by omega) (by decide) rfl (na := 84) rfl ?_
    refine z_al0 eX11_many_84 ?_
    refine z_al0 eX11_many_85 ?_
    refine z_ga eX11_many_86 fX11_25 zs0 (t := 4) rfl ?_
    refine z_gi eX11_many_89 fX11_221 zs4 ?_
    refine zc_vi1 eX11_many_92 lX11_202 tX11_answer zs0 (by decide) (Nat.le_of_ble_eq_true rfl) (x_answer _ _) ?_
    rintro _ _ ⟨rfl, rfl⟩ -
    refine ze_i eX11_many_95 rfl ?_
    exact pX0_f zXf.rf (by unfold qMany; (repeat' split) <;> first | (exfalso; omega) | rfl | (rw [e1]; done))
  refine zt_out eX11_many_1 (by omega) (na := 96) rfl ?_
  refine z_al0 eX11_many_96 ?_
  refine z_ki eX11_many_97 ?_
  refine zc_vi1 eX11_many_98 lX11_153 tX11_fail zs0 (by decide) (Nat.le_of_ble_eq_true rfl) (x_fail _ _) ?_
  rintro _ _ ⟨rfl, rfl⟩ -
  refine ze_i eX11_many_101 rfl ?_
  exact pX0_f zXf.rf (by unfold qMany; (repeat' split) <;> first | (exfalso; omega) | rfl)
theorem r_many (h : zHp) (D : Nat → Int) (hD : h 122 = D) (hb : dB D) (hst : D 2 < ((2 ^ nN D : Nat) : Int)) (x : Int) : zCi mX12_many 1 [zA 117, zI x] h (fun v h' => pM0 h (qMany D x) v h') := by
  refine z_enter [zA 117, zI x] (by decide +kernel) (Nat.le_of_ble_eq_true rfl) rfl (fun hra hrg => ?_)
  refine z_al0 eX12_many_0 ?_
  refine z_ki eX12_many_1 ?_
  refine z_pi eX12_many_2 pX12_98 zs117 ?_
  refine z_al0 eX12_many_5 ?_
  refine z_ki eX12_many_6 ?_
  refine z_pi eX12_many_7 pX12_101 zs117 ?_
  generalize hg : zup (zup h 117 1 0) 117 0 0 = g
  obtain ⟨ga, gf, g0⟩ := m_g hg
  have gD : g 122 = D := (ga 122 (by decide)).trans hD
  subst gD
  refine z_il1 eX12_many_10 ?_
  refine z_ine eX12_many_11 rfl (fun c11 => ?_) (fun c11 => ?_)
  · refine z_il1 eX12_many_23 ?_
    refine z_ki eX12_many_24 ?_
    refine z_cne eX12_many_25 rfl (fun c25 => ?_) (fun c25 => ?_)
    · refine z_il1 eX12_many_37 ?_
      refine z_ki eX12_many_38 ?_
      refine z_cne eX12_many_39 rfl (fun c39 => ?_) (fun c39 => ?_)
      · refine z_il1 eX12_many_49 ?_
        refine z_ki eX12_many_50 ?_
        refine z_cne eX12_many_51 rfl (fun c51 => ?_) (fun c51 => ?_)
        · refine z_il1 eX12_many_65 ?_
          refine z_ki eX12_many_66 ?_
          refine z_cne eX12_many_67 rfl (fun c67 => ?_) (fun c67 => ?_)
          · refine z_al0 eX12_many_79 ?_
            refine z_ki eX12_many_80 ?_
            refine zc_vi1 eX12_many_81 lX12_275 tX12_refuse zs117 (by decide) (Nat.le_of_ble_eq_true rfl) (r_refuse _ _) ?_
            rintro _ _ ⟨rfl, rfl⟩ -
            refine ze_i eX12_many_84 rfl ?_
            exact pM0_fr hg zMf.rf (by unfold qMany; (repeat' split) <;> first | (exfalso; omega) | rfl)
          · refine z_al0 eX12_many_70 ?_
            refine z_ga eX12_many_71 fX12_35 zs117 (t := 122) rfl ?_
            refine z_ki eX12_many_74 ?_
            refine zr_iN eX12_many_75 zs122 (j := 2) (by omega) (by omega) ?_
            refine z_goto eX12_many_76 rfl ?_
            refine ze_i eX12_many_84 rfl ?_
            exact pM0_f hg zMf.rf (by unfold qMany; (repeat' split) <;> first | (exfalso; omega) | rfl | (rfl; done))
        · refine z_al0 eX12_many_54 ?_
          refine z_ga eX12_many_55 fX12_35 zs117 (t := 122) rfl ?_
          refine z_ki eX12_many_58 ?_
          refine zr_iN eX12_many_61 zs122 (j := 240) (by omega) (by omega) ?_
          refine z_goto eX12_many_62 rfl ?_
          refine ze_i eX12_many_84 rfl ?_
          exact pM0_f hg zMf.rf (by unfold qMany; (repeat' split) <;> first | (exfalso; omega) | rfl | (rfl; done))
      · refine z_al0 eX12_many_42 ?_
        refine zc_vi0 eX12_many_43 lX12_272 tX12_allIn zs117 (by decide) (Nat.le_of_ble_eq_true rfl) (r_allIn _ _ rfl hb) ?_
        rintro _ _ ⟨rfl, rfl⟩ -
        refine z_goto eX12_many_46 rfl ?_
        refine ze_i eX12_many_84 rfl ?_
        exact pM0_f hg zMf.rf (by unfold qMany; (repeat' split) <;> first | (exfalso; omega) | rfl | (rfl; done))
    · refine z_al0 eX12_many_28 ?_
      refine z_ga eX12_many_29 fX12_35 zs117 (t := 122) rfl ?_
      refine z_ki eX12_many_32 ?_
      refine zr_iN eX12_many_33 zs122 (j := 1) (by omega) (by omega) ?_
      refine z_goto eX12_many_34 rfl ?_
      refine ze_i eX12_many_84 rfl ?_
      exact pM0_f hg zMf.rf (by unfold qMany; (repeat' split) <;> first | (exfalso; omega) | rfl | (rfl; done))
  · refine z_al0 eX12_many_14 ?_
    refine z_ga eX12_many_15 fX12_35 zs117 (t := 122) rfl ?_
    refine z_ki eX12_many_18 ?_
    refine zr_iN eX12_many_19 zs122 (j := 0) (by omega) (by omega) ?_
    refine z_goto eX12_many_20 rfl ?_
    refine ze_i eX12_many_84 rfl ?_
    exact pM0_f hg zMf.rf (by unfold qMany; (repeat' split) <;> first | (exfalso; omega) | rfl | (rfl; done))
theorem x_name (h : zHp) (H : rHR h) (k x : Int) : zCi mX11_name 1 [zA 0, zI k, zI x] h (fun v h' => pX0 h (qName (h 122) k x) v h') := by
  refine z_enter [zA 0, zI k, zI x] (by decide +kernel) (Nat.le_of_ble_eq_true rfl) rfl (fun hra hrg => ?_)
  obtain ⟨⟨hb, hst, e0, e1, e7, ek, es, eo, hp⟩, hru⟩ := id H
  have hN := nN_eq hb
  have hS := nS_eq hb
  have hN8 := nN_le hb
  have hS20 := nS_le hb
  have hb2 := hb.2.2.1
  refine z_al0 eX11_name_0 ?_
  refine z_il1 eX11_name_1 ?_
  refine zc_vi1 eX11_name_2 lX11_224 tX11_isName zs0 (by decide) (Nat.le_of_ble_eq_true rfl) (x_isName _ H _) ?_
  rintro _ _ ⟨rfl, rfl⟩ -
  refine z_ine eX11_name_5 rfl (fun c5 => ?_) (fun c5 => ?_)
  · have z5 := iteT c5
    refine z_il2 eX11_name_14 ?_
    by_cases q15_0 : x = 0
    · refine zt_in 0 eX11_name_15 (by omega) (by decide) rfl (na := 40) rfl ?_
      refine z_al0 eX11_name_40 ?_
      refine z_al0 eX11_name_41 ?_
      refine z_ga eX11_name_42 fX11_25 zs0 (t := 4) rfl ?_
      refine z_gi eX11_name_45 fX11_221 zs4 ?_
      refine z_il1 eX11_name_48 ?_
      refine z_ishr eX11_name_49 ?_
      refine z_ki eX11_name_50 ?_
      refine z_iand eX11_name_51 ?_
      rw [zbit (by omega) (by omega) (by omega) (by omega), e1]
      refine zc_vi1 eX11_name_52 lX11_202 tX11_answer zs0 (by decide) (Nat.le_of_ble_eq_true rfl) (x_answer _ _) ?_
      rintro _ _ ⟨rfl, rfl⟩ -
      refine ze_i eX11_name_55 rfl ?_
      exact pX0_f zXf.rf (by unfold qName; (repeat' split) <;> first | (exfalso; omega) | rfl)
    by_cases q15_1 : x = 1
    · refine zt_in 1 eX11_name_15 (by omega) (by decide) rfl (na := 56) rfl ?_
      refine z_al0 eX11_name_56 ?_
      refine z_al0 eX11_name_57 ?_
      refine z_ga eX11_name_58 fX11_25 zs0 (t := 4) rfl ?_
      refine z_ga eX11_name_61 fX11_227 zs4 (t := 6) rfl ?_
      refine z_il1 eX11_name_64 ?_
      refine zr_iN eX11_name_65 zs6 (j := k.toNat) (by omega) (by omega) ?_
      refine zc_vi1 eX11_name_66 lX11_202 tX11_answer zs0 (by decide) (Nat.le_of_ble_eq_true rfl) (x_answer _ _) ?_
      rintro _ _ ⟨rfl, rfl⟩ -
      refine ze_i eX11_name_69 rfl ?_
      exact pX0_f zXf.rf (by unfold qName; (repeat' split) <;> first | (exfalso; omega) | rfl | (rw [show h 6 k.toNat = h 122 (3 + k.toNat) from (ek k.toNat (by omega)).2.1]; done))
    by_cases q15_2 : x = 2
    · refine zt_in 2 eX11_name_15 (by omega) (by decide) rfl (na := 70) rfl ?_
      refine z_al0 eX11_name_70 ?_
      refine z_al0 eX11_name_71 ?_
      refine z_ga eX11_name_72 fX11_25 zs0 (t := 4) rfl ?_
      refine z_ga eX11_name_75 fX11_231 zs4 (t := 8) rfl ?_
      refine z_il1 eX11_name_78 ?_
      refine zr_iN eX11_name_79 zs8 (j := k.toNat) (by omega) (by omega) ?_
      refine zc_vi1 eX11_name_80 lX11_202 tX11_answer zs0 (by decide) (Nat.le_of_ble_eq_true rfl) (x_answer _ _) ?_
      rintro _ _ ⟨rfl, rfl⟩ -
      refine ze_i eX11_name_83 rfl ?_
      exact pX0_f zXf.rf (by unfold qName; (repeat' split) <;> first | (exfalso; omega) | rfl | (rw [show h 8 k.toNat = h 122 (11 + k.toNat) from (ek k.toNat (by omega)).2.2.1]; done))
    refine zt_out eX11_name_15 (by omega) (na := 84) rfl ?_
    refine z_al0 eX11_name_84 ?_
    refine z_ki eX11_name_85 ?_
    refine zc_vi1 eX11_name_86 lX11_153 tX11_fail zs0 (by decide) (Nat.le_of_ble_eq_true rfl) (x_fail _ _) ?_
    rintro _ _ ⟨rfl, rfl⟩ -
    refine ze_i eX11_name_89 rfl ?_
    exact pX0_f zXf.rf (by unfold qName; (repeat' split) <;> first | (exfalso; omega) | rfl)
  · have z5 := iteF c5
    refine z_al0 eX11_name_8 ?_
    refine z_ki eX11_name_9 ?_
    refine zc_vi1 eX11_name_10 lX11_153 tX11_fail zs0 (by decide) (Nat.le_of_ble_eq_true rfl) (x_fail _ _) ?_
    rintro _ _ ⟨rfl, rfl⟩ -
    refine ze_i eX11_name_13 rfl ?_
    exact pX0_f zXf.rf (by unfold qName; (repeat' split) <;> first | (exfalso; omega) | rfl)
theorem r_name (h : zHp) (D : Nat → Int) (hD : h 122 = D) (hb : dB D) (hst : D 2 < ((2 ^ nN D : Nat) : Int)) (k x : Int) : zCi mX12_name 2 [zA 117, zI k, zI x] h (fun v h' => pM0 h (qName D k x) v h') := by
  refine z_enter [zA 117, zI k, zI x] (by decide +kernel) (Nat.le_of_ble_eq_true rfl) rfl (fun hra hrg => ?_)
  refine z_al0 eX12_name_0 ?_
  refine z_ki eX12_name_1 ?_
  refine z_pi eX12_name_2 pX12_98 zs117 ?_
  refine z_al0 eX12_name_5 ?_
  refine z_ki eX12_name_6 ?_
  refine z_pi eX12_name_7 pX12_101 zs117 ?_
  generalize hg : zup (zup h 117 1 0) 117 0 0 = g
  obtain ⟨ga, gf, g0⟩ := m_g hg
  have gD : g 122 = D := (ga 122 (by decide)).trans hD
  subst gD
  have hN := nN_eq hb
  have hS := nS_eq hb
  have hN8 := nN_le hb
  have hS20 := nS_le hb
  have hb2 := hb.2.2.1
  refine z_al0 eX12_name_10 ?_
  refine z_il1 eX12_name_11 ?_
  refine zc_vi1 eX12_name_12 lX12_278 tX12_isName zs117 (by decide) (Nat.le_of_ble_eq_true rfl) (r_isName _ _ rfl hb _) ?_
  rintro _ _ ⟨rfl, rfl⟩ -
  refine z_ine eX12_name_15 rfl (fun c15 => ?_) (fun c15 => ?_)
  · have z15 := iteT c15
    refine z_il2 eX12_name_24 ?_
    refine z_ine eX12_name_25 rfl (fun c25 => ?_) (fun c25 => ?_)
    · refine z_il2 eX12_name_41 ?_
      refine z_ki eX12_name_42 ?_
      refine z_cne eX12_name_43 rfl (fun c43 => ?_) (fun c43 => ?_)
      · refine z_il2 eX12_name_57 ?_
        refine z_ki eX12_name_58 ?_
        refine z_cne eX12_name_59 rfl (fun c59 => ?_) (fun c59 => ?_)
        · refine z_al0 eX12_name_74 ?_
          refine z_ki eX12_name_75 ?_
          refine zc_vi1 eX12_name_76 lX12_275 tX12_refuse zs117 (by decide) (Nat.le_of_ble_eq_true rfl) (r_refuse _ _) ?_
          rintro _ _ ⟨rfl, rfl⟩ -
          refine ze_i eX12_name_79 rfl ?_
          exact pM0_fr hg zMf.rf (by unfold qName; (repeat' split) <;> first | (exfalso; omega) | rfl)
        · refine z_al0 eX12_name_62 ?_
          refine z_ga eX12_name_63 fX12_35 zs117 (t := 122) rfl ?_
          refine z_ki eX12_name_66 ?_
          refine z_il1 eX12_name_68 ?_
          refine z_iaddN eX12_name_69 (by omega) (by omega) ?_
          refine zr_iN eX12_name_70 zs122 (j := 11 + k.toNat) (by omega) (by omega) ?_
          refine z_goto eX12_name_71 rfl ?_
          refine ze_i eX12_name_79 rfl ?_
          exact pM0_f hg zMf.rf (by unfold qName; (repeat' split) <;> first | (exfalso; omega) | rfl)
      · refine z_al0 eX12_name_46 ?_
        refine z_ga eX12_name_47 fX12_35 zs117 (t := 122) rfl ?_
        refine z_ki eX12_name_50 ?_
        refine z_il1 eX12_name_51 ?_
        refine z_iaddN eX12_name_52 (by omega) (by omega) ?_
        refine zr_iN eX12_name_53 zs122 (j := 3 + k.toNat) (by omega) (by omega) ?_
        refine z_goto eX12_name_54 rfl ?_
        refine ze_i eX12_name_79 rfl ?_
        exact pM0_f hg zMf.rf (by unfold qName; (repeat' split) <;> first | (exfalso; omega) | rfl)
    · refine z_al0 eX12_name_28 ?_
      refine z_ga eX12_name_29 fX12_35 zs117 (t := 122) rfl ?_
      refine z_ki eX12_name_32 ?_
      refine zr_iN eX12_name_33 zs122 (j := 2) (by omega) (by omega) ?_
      refine z_il1 eX12_name_34 ?_
      refine z_ishr eX12_name_35 ?_
      refine z_ki eX12_name_36 ?_
      refine z_iand eX12_name_37 ?_
      rw [zbit (by omega) (by omega) (by omega) (by omega)]
      refine z_goto eX12_name_38 rfl ?_
      refine ze_i eX12_name_79 rfl ?_
      exact pM0_f hg zMf.rf (by unfold qName; (repeat' split) <;> first | (exfalso; omega) | rfl)
  · have z15 := iteF c15
    refine z_al0 eX12_name_18 ?_
    refine z_ki eX12_name_19 ?_
    refine zc_vi1 eX12_name_20 lX12_275 tX12_refuse zs117 (by decide) (Nat.le_of_ble_eq_true rfl) (r_refuse _ _) ?_
    rintro _ _ ⟨rfl, rfl⟩ -
    refine ze_i eX12_name_23 rfl ?_
    exact pM0_fr hg zMf.rf (by unfold qName; (repeat' split) <;> first | (exfalso; omega) | rfl)
theorem x_sort (h : zHp) (H : rHR h) (s x : Int) : zCi mX11_sort 1 [zA 0, zI s, zI x] h (fun v h' => pX0 h (qSort (h 122) s x) v h') := by
  refine z_enter [zA 0, zI s, zI x] (by decide +kernel) (Nat.le_of_ble_eq_true rfl) rfl (fun hra hrg => ?_)
  obtain ⟨⟨hb, hst, e0, e1, e7, ek, es, eo, hp⟩, hru⟩ := id H
  have hN := nN_eq hb
  have hS := nS_eq hb
  have hN8 := nN_le hb
  have hS20 := nS_le hb
  have hb2 := hb.2.2.1
  refine z_al0 eX11_sort_0 ?_
  refine z_il1 eX11_sort_1 ?_
  refine zc_vi1 eX11_sort_2 lX11_234 tX11_isSort zs0 (by decide) (Nat.le_of_ble_eq_true rfl) (x_isSort _ H _) ?_
  rintro _ _ ⟨rfl, rfl⟩ -
  refine z_ine eX11_sort_5 rfl (fun c5 => ?_) (fun c5 => ?_)
  · have z5 := iteT c5
    refine z_il2 eX11_sort_14 ?_
    by_cases q15_0 : x = 0
    · refine zt_in 0 eX11_sort_15 (by omega) (by decide) rfl (na := 40) rfl ?_
      refine z_al0 eX11_sort_40 ?_
      refine z_al0 eX11_sort_41 ?_
      refine z_ga eX11_sort_42 fX11_25 zs0 (t := 4) rfl ?_
      refine z_ga eX11_sort_45 fX11_237 zs4 (t := 9) rfl ?_
      refine z_il1 eX11_sort_48 ?_
      refine zr_iN eX11_sort_49 zs9 (j := s.toNat) (by omega) (by omega) ?_
      refine zc_vi1 eX11_sort_50 lX11_202 tX11_answer zs0 (by decide) (Nat.le_of_ble_eq_true rfl) (x_answer _ _) ?_
      rintro _ _ ⟨rfl, rfl⟩ -
      refine ze_i eX11_sort_53 rfl ?_
      exact pX0_f zXf.rf (by unfold qSort; (repeat' split) <;> first | (exfalso; omega) | rfl | (rw [show h 9 s.toNat = h 122 (20 + s.toNat) from (es s.toNat (by omega)).1]; done))
    by_cases q15_1 : x = 1
    · refine zt_in 1 eX11_sort_15 (by omega) (by decide) rfl (na := 54) rfl ?_
      refine z_al0 eX11_sort_54 ?_
      refine z_al0 eX11_sort_55 ?_
      refine z_ga eX11_sort_56 fX11_25 zs0 (t := 4) rfl ?_
      refine z_ga eX11_sort_59 fX11_240 zs4 (t := 10) rfl ?_
      refine z_il1 eX11_sort_62 ?_
      refine zr_iN eX11_sort_63 zs10 (j := s.toNat) (by omega) (by omega) ?_
      refine zc_vi1 eX11_sort_64 lX11_202 tX11_answer zs0 (by decide) (Nat.le_of_ble_eq_true rfl) (x_answer _ _) ?_
      rintro _ _ ⟨rfl, rfl⟩ -
      refine ze_i eX11_sort_67 rfl ?_
      exact pX0_f zXf.rf (by unfold qSort; (repeat' split) <;> first | (exfalso; omega) | rfl | (rw [show h 10 s.toNat = h 122 (40 + s.toNat) from (es s.toNat (by omega)).2.1]; done))
    by_cases q15_2 : x = 2
    · refine zt_in 2 eX11_sort_15 (by omega) (by decide) rfl (na := 68) rfl ?_
      refine z_al0 eX11_sort_68 ?_
      refine z_al0 eX11_sort_69 ?_
      refine z_ga eX11_sort_70 fX11_25 zs0 (t := 4) rfl ?_
      refine z_ga eX11_sort_73 fX11_243 zs4 (t := 11) rfl ?_
      refine z_il1 eX11_sort_76 ?_
      refine zr_iN eX11_sort_77 zs11 (j := s.toNat) (by omega) (by omega) ?_
      refine zc_vi1 eX11_sort_78 lX11_202 tX11_answer zs0 (by decide) (Nat.le_of_ble_eq_true rfl) (x_answer _ _) ?_
      rintro _ _ ⟨rfl, rfl⟩ -
      refine ze_i eX11_sort_81 rfl ?_
      exact pX0_f zXf.rf (by unfold qSort; (repeat' split) <;> first | (exfalso; omega) | rfl | (rw [show h 11 s.toNat = h 122 (60 + s.toNat) from (es s.toNat (by omega)).2.2]; done))
    refine zt_out eX11_sort_15 (by omega) (na := 82) rfl ?_
    refine z_al0 eX11_sort_82 ?_
    refine z_ki eX11_sort_83 ?_
    refine zc_vi1 eX11_sort_84 lX11_153 tX11_fail zs0 (by decide) (Nat.le_of_ble_eq_true rfl) (x_fail _ _) ?_
    rintro _ _ ⟨rfl, rfl⟩ -
    refine ze_i eX11_sort_87 rfl ?_
    exact pX0_f zXf.rf (by unfold qSort; (repeat' split) <;> first | (exfalso; omega) | rfl)
  · have z5 := iteF c5
    refine z_al0 eX11_sort_8 ?_
    refine z_ki eX11_sort_9 ?_
    refine zc_vi1 eX11_sort_10 lX11_153 tX11_fail zs0 (by decide) (Nat.le_of_ble_eq_true rfl) (x_fail _ _) ?_
    rintro _ _ ⟨rfl, rfl⟩ -
    refine ze_i eX11_sort_13 rfl ?_
    exact pX0_f zXf.rf (by unfold qSort; (repeat' split) <;> first | (exfalso; omega) | rfl)
theorem r_sort (h : zHp) (D : Nat → Int) (hD : h 122 = D) (hb : dB D) (hst : D 2 < ((2 ^ nN D : Nat) : Int)) (s x : Int) : zCi mX12_sort 2 [zA 117, zI s, zI x] h (fun v h' => pM0 h (qSort D s x) v h') := by
  refine z_enter [zA 117, zI s, zI x] (by decide +kernel) (Nat.le_of_ble_eq_true rfl) rfl (fun hra hrg => ?_)
  refine z_al0 eX12_sort_0 ?_
  refine z_ki eX12_sort_1 ?_
  refine z_pi eX12_sort_2 pX12_98 zs117 ?_
  refine z_al0 eX12_sort_5 ?_
  refine z_ki eX12_sort_6 ?_
  refine z_pi eX12_sort_7 pX12_101 zs117 ?_
  generalize hg : zup (zup h 117 1 0) 117 0 0 = g
  obtain ⟨ga, gf, g0⟩ := m_g hg
  have gD : g 122 = D := (ga 122 (by decide)).trans hD
  subst gD
  have hN := nN_eq hb
  have hS := nS_eq hb
  have hN8 := nN_le hb
  have hS20 := nS_le hb
  have hb2 := hb.2.2.1
  refine z_al0 eX12_sort_10 ?_
  refine z_il1 eX12_sort_11 ?_
  refine zc_vi1 eX12_sort_12 lX12_281 tX12_isSort zs117 (by decide) (Nat.le_of_ble_eq_true rfl) (r_isSort _ _ rfl hb _) ?_
  rintro _ _ ⟨rfl, rfl⟩ -
  refine z_ine eX12_sort_15 rfl (fun c15 => ?_) (fun c15 => ?_)
  · have z15 := iteT c15
    refine z_il2 eX12_sort_24 ?_
    refine z_ine eX12_sort_25 rfl (fun c25 => ?_) (fun c25 => ?_)
    · refine z_il2 eX12_sort_40 ?_
      refine z_ki eX12_sort_41 ?_
      refine z_cne eX12_sort_42 rfl (fun c42 => ?_) (fun c42 => ?_)
      · refine z_il2 eX12_sort_57 ?_
        refine z_ki eX12_sort_58 ?_
        refine z_cne eX12_sort_59 rfl (fun c59 => ?_) (fun c59 => ?_)
        · refine z_al0 eX12_sort_74 ?_
          refine z_ki eX12_sort_75 ?_
          refine zc_vi1 eX12_sort_76 lX12_275 tX12_refuse zs117 (by decide) (Nat.le_of_ble_eq_true rfl) (r_refuse _ _) ?_
          rintro _ _ ⟨rfl, rfl⟩ -
          refine ze_i eX12_sort_79 rfl ?_
          exact pM0_fr hg zMf.rf (by unfold qSort; (repeat' split) <;> first | (exfalso; omega) | rfl)
        · refine z_al0 eX12_sort_62 ?_
          refine z_ga eX12_sort_63 fX12_35 zs117 (t := 122) rfl ?_
          refine z_ki eX12_sort_66 ?_
          refine z_il1 eX12_sort_68 ?_
          refine z_iaddN eX12_sort_69 (by omega) (by omega) ?_
          refine zr_iN eX12_sort_70 zs122 (j := 60 + s.toNat) (by omega) (by omega) ?_
          refine z_goto eX12_sort_71 rfl ?_
          refine ze_i eX12_sort_79 rfl ?_
          exact pM0_f hg zMf.rf (by unfold qSort; (repeat' split) <;> first | (exfalso; omega) | rfl)
      · refine z_al0 eX12_sort_45 ?_
        refine z_ga eX12_sort_46 fX12_35 zs117 (t := 122) rfl ?_
        refine z_ki eX12_sort_49 ?_
        refine z_il1 eX12_sort_51 ?_
        refine z_iaddN eX12_sort_52 (by omega) (by omega) ?_
        refine zr_iN eX12_sort_53 zs122 (j := 40 + s.toNat) (by omega) (by omega) ?_
        refine z_goto eX12_sort_54 rfl ?_
        refine ze_i eX12_sort_79 rfl ?_
        exact pM0_f hg zMf.rf (by unfold qSort; (repeat' split) <;> first | (exfalso; omega) | rfl)
    · refine z_al0 eX12_sort_28 ?_
      refine z_ga eX12_sort_29 fX12_35 zs117 (t := 122) rfl ?_
      refine z_ki eX12_sort_32 ?_
      refine z_il1 eX12_sort_34 ?_
      refine z_iaddN eX12_sort_35 (by omega) (by omega) ?_
      refine zr_iN eX12_sort_36 zs122 (j := 20 + s.toNat) (by omega) (by omega) ?_
      refine z_goto eX12_sort_37 rfl ?_
      refine ze_i eX12_sort_79 rfl ?_
      exact pM0_f hg zMf.rf (by unfold qSort; (repeat' split) <;> first | (exfalso; omega) | rfl)
  · have z15 := iteF c15
    refine z_al0 eX12_sort_18 ?_
    refine z_ki eX12_sort_19 ?_
    refine zc_vi1 eX12_sort_20 lX12_275 tX12_refuse zs117 (by decide) (Nat.le_of_ble_eq_true rfl) (r_refuse _ _) ?_
    rintro _ _ ⟨rfl, rfl⟩ -
    refine ze_i eX12_sort_23 rfl ?_
    exact pM0_fr hg zMf.rf (by unfold qSort; (repeat' split) <;> first | (exfalso; omega) | rfl)
theorem x_order (h : zHp) (H : rHR h) (s k : Int) : zCi mX11_order 1 [zA 0, zI s, zI k] h (fun v h' => pX0 h (qOrder (h 122) s k) v h') := by
  refine z_enter [zA 0, zI s, zI k] (by decide +kernel) (Nat.le_of_ble_eq_true rfl) rfl (fun hra hrg => ?_)
  obtain ⟨⟨hb, hst, e0, e1, e7, ek, es, eo, hp⟩, hru⟩ := id H
  have hN := nN_eq hb
  have hS := nS_eq hb
  have hN8 := nN_le hb
  have hS20 := nS_le hb
  have hb2 := hb.2.2.1
  refine z_al0 eX11_order_0 ?_
  refine z_il1 eX11_order_1 ?_
  refine zc_vi1 eX11_order_2 lX11_234 tX11_isSort zs0 (by decide) (Nat.le_of_ble_eq_true rfl) (x_isSort _ H _) ?_
  rintro _ _ ⟨rfl, rfl⟩ -
  refine z_ine eX11_order_5 rfl (fun c5 => ?_) (fun c5 => ?_)
  · have z5 := iteT c5
    refine z_il2 eX11_order_14 ?_
    refine z_ilt eX11_order_15 rfl (fun c15 => ?_) (fun c15 => ?_)
    · refine z_al0 eX11_order_29 ?_
      refine z_ki eX11_order_30 ?_
      refine zc_vi1 eX11_order_31 lX11_153 tX11_fail zs0 (by decide) (Nat.le_of_ble_eq_true rfl) (x_fail _ _) ?_
      rintro _ _ ⟨rfl, rfl⟩ -
      refine ze_i eX11_order_34 rfl ?_
      exact pX0_f zXf.rf (by unfold qOrder; (repeat' split) <;> first | (exfalso; omega) | rfl)
    · refine z_il2 eX11_order_18 ?_
      refine z_al0 eX11_order_19 ?_
      refine z_ga eX11_order_20 fX11_25 zs0 (t := 4) rfl ?_
      refine z_gi eX11_order_23 fX11_120 zs4 ?_
      refine z_clt eX11_order_26 rfl (fun c26 => ?_) (fun c26 => ?_)
      · refine z_al0 eX11_order_35 ?_
        refine z_al0 eX11_order_36 ?_
        refine z_ga eX11_order_37 fX11_25 zs0 (t := 4) rfl ?_
        refine z_ga eX11_order_40 fX11_246 zs4 (t := 12) rfl ?_
        refine z_il1 eX11_order_43 ?_
        refine z_ki eX11_order_44 ?_
        refine z_imulN eX11_order_46 (by omega) (by omega) ?_
        refine z_il2 eX11_order_47 ?_
        refine z_iaddN eX11_order_48 (by omega) (by omega) ?_
        refine zr_iN eX11_order_49 zs12 (j := 8 * s.toNat + k.toNat) (by omega) (by omega) ?_
        refine zc_vi1 eX11_order_50 lX11_202 tX11_answer zs0 (by decide) (Nat.le_of_ble_eq_true rfl) (x_answer _ _) ?_
        rintro _ _ ⟨rfl, rfl⟩ -
        refine ze_i eX11_order_53 rfl ?_
        exact pX0_f zXf.rf (by unfold qOrder; (repeat' split) <;> first | (exfalso; omega) | rfl | (rw [show h 12 (8 * s.toNat + k.toNat) = h 122 (80 + 8 * s.toNat + k.toNat) from (eo s.toNat k.toNat (by omega) (by omega)).1]; done))
      · refine z_al0 eX11_order_29 ?_
        refine z_ki eX11_order_30 ?_
        refine zc_vi1 eX11_order_31 lX11_153 tX11_fail zs0 (by decide) (Nat.le_of_ble_eq_true rfl) (x_fail _ _) ?_
        rintro _ _ ⟨rfl, rfl⟩ -
        refine ze_i eX11_order_34 rfl ?_
        exact pX0_f zXf.rf (by unfold qOrder; (repeat' split) <;> first | (exfalso; omega) | rfl)
  · have z5 := iteF c5
    refine z_al0 eX11_order_8 ?_
    refine z_ki eX11_order_9 ?_
    refine zc_vi1 eX11_order_10 lX11_153 tX11_fail zs0 (by decide) (Nat.le_of_ble_eq_true rfl) (x_fail _ _) ?_
    rintro _ _ ⟨rfl, rfl⟩ -
    refine ze_i eX11_order_13 rfl ?_
    exact pX0_f zXf.rf (by unfold qOrder; (repeat' split) <;> first | (exfalso; omega) | rfl)
theorem r_order (h : zHp) (D : Nat → Int) (hD : h 122 = D) (hb : dB D) (hst : D 2 < ((2 ^ nN D : Nat) : Int)) (s k : Int) : zCi mX12_order 2 [zA 117, zI s, zI k] h (fun v h' => pM0 h (qOrder D s k) v h') := by
  refine z_enter [zA 117, zI s, zI k] (by decide +kernel) (Nat.le_of_ble_eq_true rfl) rfl (fun hra hrg => ?_)
  refine z_al0 eX12_order_0 ?_
  refine z_ki eX12_order_1 ?_
  refine z_pi eX12_order_2 pX12_98 zs117 ?_
  refine z_al0 eX12_order_5 ?_
  refine z_ki eX12_order_6 ?_
  refine z_pi eX12_order_7 pX12_101 zs117 ?_
  generalize hg : zup (zup h 117 1 0) 117 0 0 = g
  obtain ⟨ga, gf, g0⟩ := m_g hg
  have gD : g 122 = D := (ga 122 (by decide)).trans hD
  subst gD
  have hN := nN_eq hb
  have hS := nS_eq hb
  have hN8 := nN_le hb
  have hS20 := nS_le hb
  have hb2 := hb.2.2.1
  refine z_al0 eX12_order_10 ?_
  refine z_il1 eX12_order_11 ?_
  refine zc_vi1 eX12_order_12 lX12_281 tX12_isSort zs117 (by decide) (Nat.le_of_ble_eq_true rfl) (r_isSort _ _ rfl hb _) ?_
  rintro _ _ ⟨rfl, rfl⟩ -
  refine z_ine eX12_order_15 rfl (fun c15 => ?_) (fun c15 => ?_)
  · have z15 := iteT c15
    refine z_il2 eX12_order_24 ?_
    refine z_i2l eX12_order_25 ?_
    refine z_kj eX12_order_26 ?_
    refine z_al0 eX12_order_27 ?_
    refine z_ga eX12_order_28 fX12_35 zs117 (t := 122) rfl ?_
    refine z_ki eX12_order_31 ?_
    refine zr_iN eX12_order_32 zs122 (j := 0) (by omega) (by omega) ?_
    refine z_ki eX12_order_33 ?_
    refine z_isubN eX12_order_34 (by omega) (by omega) ?_
    refine z_i2l eX12_order_35 ?_
    refine zc_si3 eX12_order_36 lX12_133 tX12_isIn (by decide) (Nat.le_of_ble_eq_true rfl) (r_isIn _ _ _ _) ?_
    rintro _ _ ⟨rfl, rfl⟩ -
    refine z_ieq eX12_order_39 rfl (fun c39 => ?_) (fun c39 => ?_)
    · have z39 := iteF c39
      refine z_al0 eX12_order_59 ?_
      refine z_ki eX12_order_60 ?_
      refine zc_vi1 eX12_order_61 lX12_275 tX12_refuse zs117 (by decide) (Nat.le_of_ble_eq_true rfl) (r_refuse _ _) ?_
      rintro _ _ ⟨rfl, rfl⟩ -
      refine ze_i eX12_order_64 rfl ?_
      exact pM0_fr hg zMf.rf (by unfold qOrder; (repeat' split) <;> first | (exfalso; omega) | rfl)
    · have z39 := iteT c39
      refine z_al0 eX12_order_42 ?_
      refine z_ga eX12_order_43 fX12_35 zs117 (t := 122) rfl ?_
      refine z_ki eX12_order_46 ?_
      refine z_ki eX12_order_48 ?_
      refine z_il1 eX12_order_50 ?_
      refine z_imulN eX12_order_51 (by omega) (by omega) ?_
      refine z_iaddN eX12_order_52 (by omega) (by omega) ?_
      refine z_il2 eX12_order_53 ?_
      refine z_iaddN eX12_order_54 (by omega) (by omega) ?_
      refine zr_iN eX12_order_55 zs122 (j := 80 + 8 * s.toNat + k.toNat) (by omega) (by omega) ?_
      refine z_goto eX12_order_56 rfl ?_
      refine ze_i eX12_order_64 rfl ?_
      exact pM0_f hg zMf.rf (by unfold qOrder; (repeat' split) <;> first | (exfalso; omega) | rfl)
  · have z15 := iteF c15
    refine z_al0 eX12_order_18 ?_
    refine z_ki eX12_order_19 ?_
    refine zc_vi1 eX12_order_20 lX12_275 tX12_refuse zs117 (by decide) (Nat.le_of_ble_eq_true rfl) (r_refuse _ _) ?_
    rintro _ _ ⟨rfl, rfl⟩ -
    refine ze_i eX12_order_23 rfl ?_
    exact pM0_fr hg zMf.rf (by unfold qOrder; (repeat' split) <;> first | (exfalso; omega) | rfl)
theorem x_acted (h : zHp) (H : rActed h) (h35 : h 117 35 = 0 ∨ h 117 35 = 1) (x : Int) : zCi mX11_acted 1 [zA 0, zI x] h (fun v h' => pX0 h (qActed h x) v h') := by
  refine z_enter [zA 0, zI x] (by decide +kernel) (Nat.le_of_ble_eq_true rfl) rfl (fun hra hrg => ?_)
  obtain ⟨a0, a1⟩ := H
  have h8 : h 65 8 = 0 ∨ h 65 8 = 1 := by
    have := hrg 65 8 3 9 (by decide) rfl (by omega)
    have : 0 ≤ h 65 8 ∧ h 65 8 ≤ 1 := this
    omega
  refine z_il1 eX11_acted_0 ?_
  refine z_ilt eX11_acted_1 rfl (fun c1 => ?_) (fun c1 => ?_)
  · refine z_al0 eX11_acted_9 ?_
    refine z_ki eX11_acted_10 ?_
    refine zc_vi1 eX11_acted_11 lX11_153 tX11_fail zs0 (by decide) (Nat.le_of_ble_eq_true rfl) (x_fail _ _) ?_
    rintro _ _ ⟨rfl, rfl⟩ -
    refine ze_i eX11_acted_14 rfl ?_
    exact pX0_f zXf.rf (by unfold qActed; (repeat' split) <;> first | (exfalso; omega) | rfl)
  · refine z_il1 eX11_acted_4 ?_
    refine z_ki eX11_acted_5 ?_
    refine z_cle eX11_acted_6 rfl (fun c6 => ?_) (fun c6 => ?_)
    · refine z_al0 eX11_acted_15 ?_
      refine z_ga eX11_acted_16 fX11_104 zs0 (t := 65) rfl ?_
      refine z_gi eX11_acted_19 fX11_368 zs65 ?_
      refine z_ine eX11_acted_22 rfl (fun c22 => ?_) (fun c22 => ?_)
      · refine z_il1 eX11_acted_32 ?_
        by_cases q33_0 : x = 0
        · refine zt_in 0 eX11_acted_33 (by omega) (by decide) rfl (na := 60) rfl ?_
          refine z_al0 eX11_acted_60 ?_
          refine z_al0 eX11_acted_61 ?_
          refine z_ga eX11_acted_62 fX11_104 zs0 (t := 65) rfl ?_
          refine z_gi eX11_acted_65 fX11_371 zs65 ?_
          refine zc_vi1 eX11_acted_68 lX11_202 tX11_answer zs0 (by decide) (Nat.le_of_ble_eq_true rfl) (x_answer _ _) ?_
          rintro _ _ ⟨rfl, rfl⟩ -
          refine ze_i eX11_acted_71 rfl ?_
          exact pX0_f zXf.rf (by unfold qActed; (repeat' split) <;> first | (exfalso; omega) | rfl | (rw [(a1 (by omega)).1]; done))
        by_cases q33_1 : x = 1
        · refine zt_in 1 eX11_acted_33 (by omega) (by decide) rfl (na := 72) rfl ?_
          refine z_al0 eX11_acted_72 ?_
          refine z_al0 eX11_acted_73 ?_
          refine z_ga eX11_acted_74 fX11_104 zs0 (t := 65) rfl ?_
          refine z_gi eX11_acted_77 fX11_374 zs65 ?_
          refine zc_vi1 eX11_acted_80 lX11_202 tX11_answer zs0 (by decide) (Nat.le_of_ble_eq_true rfl) (x_answer _ _) ?_
          rintro _ _ ⟨rfl, rfl⟩ -
          refine ze_i eX11_acted_83 rfl ?_
          exact pX0_f zXf.rf (by unfold qActed; (repeat' split) <;> first | (exfalso; omega) | rfl | (rw [(a1 (by omega)).2.1]; done))
        by_cases q33_2 : x = 2
        · refine zt_in 2 eX11_acted_33 (by omega) (by decide) rfl (na := 84) rfl ?_
          refine z_al0 eX11_acted_84 ?_
          refine z_al0 eX11_acted_85 ?_
          refine z_ga eX11_acted_86 fX11_104 zs0 (t := 65) rfl ?_
          refine z_gi eX11_acted_89 fX11_377 zs65 ?_
          refine zc_vi1 eX11_acted_92 lX11_202 tX11_answer zs0 (by decide) (Nat.le_of_ble_eq_true rfl) (x_answer _ _) ?_
          rintro _ _ ⟨rfl, rfl⟩ -
          refine ze_i eX11_acted_95 rfl ?_
          exact pX0_f zXf.rf (by unfold qActed; (repeat' split) <;> first | (exfalso; omega) | rfl | (rw [(a1 (by omega)).2.2.1]; done))
        refine zt_out eX11_acted_33 (by omega) (na := 96) rfl ?_
        refine z_al0 eX11_acted_96 ?_
        refine z_al0 eX11_acted_97 ?_
        refine z_ga eX11_acted_98 fX11_104 zs0 (t := 65) rfl ?_
        refine z_gi eX11_acted_101 fX11_380 zs65 ?_
        refine z_ieq eX11_acted_104 rfl (fun c104 => ?_) (fun c104 => ?_)
        · refine z_ki eX11_acted_111 ?_
          refine zc_vi1 eX11_acted_112 lX11_202 tX11_answer zs0 (by decide) (Nat.le_of_ble_eq_true rfl) (x_answer _ _) ?_
          rintro _ _ ⟨rfl, rfl⟩ -
          refine ze_i eX11_acted_115 rfl ?_
          exact pX0_f zXf.rf (by unfold qActed; (repeat' split) <;> first | (exfalso; omega) | rfl | (have q8 := (a1 (by omega)).2.2.2; congr 1 <;> omega; done))
        · refine z_ki eX11_acted_107 ?_
          refine z_goto eX11_acted_108 rfl ?_
          refine zc_vi1 eX11_acted_112 lX11_202 tX11_answer zs0 (by decide) (Nat.le_of_ble_eq_true rfl) (x_answer _ _) ?_
          rintro _ _ ⟨rfl, rfl⟩ -
          refine ze_i eX11_acted_115 rfl ?_
          exact pX0_f zXf.rf (by unfold qActed; (repeat' split) <;> first | (exfalso; omega) | rfl | (have q8 := (a1 (by omega)).2.2.2; congr 1 <;> omega; done))
      · refine z_al0 eX11_acted_25 ?_
        refine z_ki eX11_acted_26 ?_
        refine zc_vi1 eX11_acted_28 lX11_153 tX11_fail zs0 (by decide) (Nat.le_of_ble_eq_true rfl) (x_fail _ _) ?_
        rintro _ _ ⟨rfl, rfl⟩ -
        refine ze_i eX11_acted_31 rfl ?_
        exact pX0_f zXf.rf (by unfold qActed; (repeat' split) <;> first | (exfalso; omega) | rfl)
    · refine z_al0 eX11_acted_9 ?_
      refine z_ki eX11_acted_10 ?_
      refine zc_vi1 eX11_acted_11 lX11_153 tX11_fail zs0 (by decide) (Nat.le_of_ble_eq_true rfl) (x_fail _ _) ?_
      rintro _ _ ⟨rfl, rfl⟩ -
      refine ze_i eX11_acted_14 rfl ?_
      exact pX0_f zXf.rf (by unfold qActed; (repeat' split) <;> first | (exfalso; omega) | rfl)
theorem r_acted (h : zHp) (h35 : h 117 35 = 0 ∨ h 117 35 = 1) (x : Int) : zCi mX12_acted 1 [zA 117, zI x] h (fun v h' => pM0 h (qActed h x) v h') := by
  refine z_enter [zA 117, zI x] (by decide +kernel) (Nat.le_of_ble_eq_true rfl) rfl (fun hra hrg => ?_)
  refine z_al0 eX12_acted_0 ?_
  refine z_ki eX12_acted_1 ?_
  refine z_pi eX12_acted_2 pX12_98 zs117 ?_
  refine z_al0 eX12_acted_5 ?_
  refine z_ki eX12_acted_6 ?_
  refine z_pi eX12_acted_7 pX12_101 zs117 ?_
  generalize hg : zup (zup h 117 1 0) 117 0 0 = g
  obtain ⟨ga, gf, g0⟩ := m_g hg
  refine z_il1 eX12_acted_10 ?_
  refine z_i2l eX12_acted_11 ?_
  refine z_kj eX12_acted_12 ?_
  refine z_kj eX12_acted_13 ?_
  refine zc_si3 eX12_acted_16 lX12_133 tX12_isIn (by decide) (Nat.le_of_ble_eq_true rfl) (r_isIn _ _ _ _) ?_
  rintro _ _ ⟨rfl, rfl⟩ -
  refine z_ine eX12_acted_19 rfl (fun c19 => ?_) (fun c19 => ?_)
  · have z19 := iteT c19
    refine z_al0 eX12_acted_28 ?_
    refine z_gi eX12_acted_29 fX12_538 zs117 ?_
    rw [gf 35 (by decide) (by decide)]
    refine z_ine eX12_acted_32 rfl (fun c32 => ?_) (fun c32 => ?_)
    · refine z_il1 eX12_acted_42 ?_
      refine z_ine eX12_acted_43 rfl (fun c43 => ?_) (fun c43 => ?_)
      · refine z_il1 eX12_acted_53 ?_
        refine z_ki eX12_acted_54 ?_
        refine z_cne eX12_acted_55 rfl (fun c55 => ?_) (fun c55 => ?_)
        · refine z_il1 eX12_acted_65 ?_
          refine z_ki eX12_acted_66 ?_
          refine z_cne eX12_acted_67 rfl (fun c67 => ?_) (fun c67 => ?_)
          · refine z_al0 eX12_acted_77 ?_
            refine z_gi eX12_acted_78 fX12_517 zs117 ?_
            rw [gf 29 (by decide) (by decide)]
            refine ze_i eX12_acted_81 rfl ?_
            exact pM0_f hg zMf.rf (by unfold qActed; (repeat' split) <;> first | (exfalso; omega) | rfl)
          · refine z_al0 eX12_acted_70 ?_
            refine z_gi eX12_acted_71 fX12_505 zs117 ?_
            rw [gf 32 (by decide) (by decide)]
            refine z_goto eX12_acted_74 rfl ?_
            refine ze_i eX12_acted_81 rfl ?_
            exact pM0_f hg zMf.rf (by unfold qActed; (repeat' split) <;> first | (exfalso; omega) | rfl)
        · refine z_al0 eX12_acted_58 ?_
          refine z_gi eX12_acted_59 fX12_508 zs117 ?_
          rw [gf 31 (by decide) (by decide)]
          refine z_goto eX12_acted_62 rfl ?_
          refine ze_i eX12_acted_81 rfl ?_
          exact pM0_f hg zMf.rf (by unfold qActed; (repeat' split) <;> first | (exfalso; omega) | rfl)
      · refine z_al0 eX12_acted_46 ?_
        refine z_gi eX12_acted_47 fX12_511 zs117 ?_
        rw [gf 30 (by decide) (by decide)]
        refine z_goto eX12_acted_50 rfl ?_
        refine ze_i eX12_acted_81 rfl ?_
        exact pM0_f hg zMf.rf (by unfold qActed; (repeat' split) <;> first | (exfalso; omega) | rfl)
    · refine z_al0 eX12_acted_35 ?_
      refine z_ki eX12_acted_36 ?_
      refine zc_vi1 eX12_acted_38 lX12_275 tX12_refuse zs117 (by decide) (Nat.le_of_ble_eq_true rfl) (r_refuse _ _) ?_
      rintro _ _ ⟨rfl, rfl⟩ -
      refine ze_i eX12_acted_41 rfl ?_
      exact pM0_fr hg zMf.rf (by unfold qActed; (repeat' split) <;> first | (exfalso; omega) | rfl)
  · have z19 := iteF c19
    refine z_al0 eX12_acted_22 ?_
    refine z_ki eX12_acted_23 ?_
    refine zc_vi1 eX12_acted_24 lX12_275 tX12_refuse zs117 (by decide) (Nat.le_of_ble_eq_true rfl) (r_refuse _ _) ?_
    rintro _ _ ⟨rfl, rfl⟩ -
    refine ze_i eX12_acted_27 rfl ?_
    exact pM0_fr hg zMf.rf (by unfold qActed; (repeat' split) <;> first | (exfalso; omega) | rfl)
