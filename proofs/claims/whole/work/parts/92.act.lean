-- act (written by wip/tools/specF4.py)
theorem exA_cg {h g : zHp} (sp : Int) (e3 : g 123 = h 123) (e6 : g 126 = h 126) (e7 : g 127 = h 127) (e8 : g 128 = h 128) (e9 : g 129 = h 129) (e4 : g 134 = h 134) : ∀ (f s t : Nat) (S : aSt), exA g sp f s t S = exA h sp f s t S := by
  intro f
  induction f with
  | zero => intro s t S; rfl
  | succ f ih =>
    intro s t S
    have e1 : ∀ (body : aSt → aSt) (S2 : aSt), ex1 g sp body s S2 = ex1 h sp body s S2 := fun body S2 => by
      have es : soS g s = soS h s := funext (fun S3 => by unfold soS; rw [e3, e4, e7])
      unfold ex1 ex2
      rw [e3, e4, e6, e7, e8, es]
    have eb : exA g sp f (s + 1) (h 129 s).toNat = exA h sp f (s + 1) (h 129 s).toNat := funext (fun S2 => ih _ _ S2)
    rw [exA, exA, e9, e1, ih, eb]
theorem x_act (h : zHp) (H : rHR h) (sp : Int) (hsp : h 32 2 = sp) (hs01 : sp = 0 ∨ sp = 1) (t N : Nat) (hN : h 32 0 = (N : Int)) (hN80 : N ≤ 80) (B : blk h 40 3 0 t 0 N) : zCi mX11_act 8 [zA 0] h (fun v h' => (exA h sp 40 0 t (aS0 (h 122))).dn = v ∧ ∃ g, xS h (h 123) (exA h sp 40 0 t (aS0 (h 122))) g ∧ zup g 0 0 0 = h') := by
  refine z_enter [zA 0] (by decide +kernel) (Nat.le_of_ble_eq_true rfl) rfl (fun hra hrg => ?_)
  refine z_al0 eX11_act_0 ?_
  refine z_al0 eX11_act_1 ?_
  refine z_ga eX11_act_2 fX11_104 zs0 (t := 65) rfl ?_
  refine zc_vi0 eX11_act_5 lX11_365 tX3_run zs65 (by decide) (Nat.le_of_ble_eq_true rfl) (x_runA h H sp hsp hs01 t N hN hN80 B) ?_
  rintro _ g ⟨rfl, Hx⟩ -
  refine zc_vi1 eX11_act_8 lX11_202 tX11_answer zs0 (by decide) (Nat.le_of_ble_eq_true rfl) (x_answer _ _) ?_
  rintro _ _ ⟨rfl, rfl⟩ -
  refine ze_i eX11_act_11 rfl ?_
  exact ⟨rfl, g, Hx, rfl⟩
theorem r_act (h : zHp) (D : Nat → Int) (hD : h 122 = D) (hb : dB D) (hst : D 2 < ((2 ^ nN D : Nat) : Int)) (sp : Int) (hsp : h 117 33 = sp) (hs01 : sp = 0 ∨ sp = 1) (t N : Nat) (ht : h 117 26 = (t : Int)) (ht40 : t ≤ 40) (B : blk h 40 3 0 t 0 N) : zCi mX12_act 41 [zA 117] h (fun v h' => (exA h sp 40 0 t (aS0 D)).dn = v ∧ ∃ g0 : zHp, (∀ a : Nat, ¬ a = 117 → g0 a = h a) ∧ (∀ i : Nat, ¬ i = 0 → ¬ i = 1 → ¬ (28 ≤ i ∧ i ≤ 32) → ¬ i = 35 → g0 117 i = h 117 i) ∧ g0 117 35 = 1 ∧ g0 117 0 = 0 ∧ mS g0 (exA h sp 40 0 t (aS0 D)) h') := by
  refine z_enter [zA 117] (by decide +kernel) (Nat.le_of_ble_eq_true rfl) rfl (fun hra hrg => ?_)
  refine z_al0 eX12_act_0 ?_
  refine z_ki eX12_act_1 ?_
  refine z_pi eX12_act_2 pX12_98 zs117 ?_
  refine z_al0 eX12_act_5 ?_
  refine z_ki eX12_act_6 ?_
  refine z_pi eX12_act_7 pX12_101 zs117 ?_
  refine z_al0 eX12_act_10 ?_
  refine z_ki eX12_act_11 ?_
  refine z_pi eX12_act_12 pX12_523 zs117 ?_
  refine z_al0 eX12_act_15 ?_
  refine z_ki eX12_act_16 ?_
  refine z_pi eX12_act_17 pX12_517 zs117 ?_
  refine z_al0 eX12_act_20 ?_
  refine z_ki eX12_act_21 ?_
  refine z_pi eX12_act_22 pX12_511 zs117 ?_
  refine z_al0 eX12_act_25 ?_
  refine z_ki eX12_act_26 ?_
  refine z_pi eX12_act_27 pX12_508 zs117 ?_
  refine z_al0 eX12_act_30 ?_
  refine z_ki eX12_act_31 ?_
  refine z_pi eX12_act_32 pX12_505 zs117 ?_
  refine z_al0 eX12_act_35 ?_
  refine z_ki eX12_act_36 ?_
  refine z_pz eX12_act_37 pX12_538 zs117 (by omega) ?_
  obtain ⟨g0, hg0⟩ : ∃ x, zup (zup (zup (zup (zup (zup (zup (zup h 117 1 0) 117 0 0) 117 28 0) 117 29 0) 117 30 0) 117 31 0) 117 32 0) 117 35 1 = x := ⟨_, rfl⟩
  rw [hg0]
  have go : ∀ a : Nat, ¬ a = 117 → g0 a = h a := fun a ha => by rw [← hg0, zup_off ha, zup_off ha, zup_off ha, zup_off ha, zup_off ha, zup_off ha, zup_off ha, zup_off ha]
  have gi : ∀ i : Nat, ¬ i = 0 → ¬ i = 1 → ¬ (28 ≤ i ∧ i ≤ 32) → ¬ i = 35 → g0 117 i = h 117 i := fun i i0 i1 i2 i3 => by rw [← hg0, zup_ne (by omega), zup_ne (by omega), zup_ne (by omega), zup_ne (by omega), zup_ne (by omega), zup_ne (by omega), zup_ne (by omega), zup_ne (by omega)]
  have gs : g0 117 33 = sp := (gi 33 (by decide) (by decide) (by decide) (by decide)).trans hsp
  have gt : g0 117 26 = (t : Int) := (gi 26 (by decide) (by decide) (by decide) (by decide)).trans ht
  have Hm0 : mS g0 (aS0 D) g0 := ⟨⟨hb, hst⟩, (go 122 (by decide)).trans hD, ⟨by rw [← hg0, zup_ne (by decide), zup_ne (by decide), zup_ne (by decide), zup_ne (by decide), zup_ne (by decide), zup_at]; rfl, by rw [← hg0, zup_ne (by decide), zup_ne (by decide), zup_ne (by decide), zup_ne (by decide), zup_at]; rfl, by rw [← hg0, zup_ne (by decide), zup_ne (by decide), zup_ne (by decide), zup_at]; rfl, by rw [← hg0, zup_ne (by decide), zup_ne (by decide), zup_at]; rfl, by rw [← hg0, zup_ne (by decide), zup_at]; rfl⟩, fun _ _ _ _ _ => rfl, fun _ _ _ => rfl⟩
  have G0 : aG (aS0 D) := ⟨⟨hb, hst⟩, ⟨Int.le_refl _, by show (0 : Int) ≤ 200; omega⟩, Or.inl rfl, ⟨Int.le_refl _, Int.le_refl _⟩, ⟨Int.le_refl _, Int.le_refl _⟩, ⟨Int.le_refl _, Int.le_refl _⟩⟩
  have B' : blk g0 40 3 0 t 0 N := blk_cg (fun a ha => go a (by omega)) _ _ _ _ _ _ B
  have eX := exA_cg sp (go 123 (by decide)) (go 126 (by decide)) (go 127 (by decide)) (go 128 (by decide)) (go 129 (by decide)) (go 134 (by decide)) 40 0 t (aS0 D)
  have hdo := r_doAll_c g0 0 t _ _ g0 (r_doAll_l g0 sp gs hs01 40 3 0 t 0 N B' (by omega) ht40 0 g0 (aS0 D) Hm0 G0)
  rw [eX] at hdo
  refine z_al0 eX12_act_40 ?_
  refine z_ki eX12_act_41 ?_
  refine z_al0 eX12_act_42 ?_
  refine z_gi eX12_act_43 fX12_495 zs117 ?_
  rw [gt]
  refine zc_vv2 eX12_act_46 lX12_532 tX12_doAll zs117 (by decide) (Nat.le_of_ble_eq_true rfl) hdo ?_
  rintro g2 Hm2
  refine z_al0 eX12_act_49 ?_
  refine z_gi eX12_act_50 fX12_523 zs117 ?_
  rw [Hm2.2.2.1.1]
  refine ze_i eX12_act_53 rfl ?_
  exact ⟨rfl, g0, go, gi, by rw [← hg0, zup_at], by rw [← hg0, zup_ne (by decide), zup_ne (by decide), zup_ne (by decide), zup_ne (by decide), zup_ne (by decide), zup_ne (by decide), zup_at], Hm2⟩
