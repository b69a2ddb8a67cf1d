-- act: names by word, isSo, the changes of one step (written by wip/tools/specE1.py)
def fdF (W : Nat → Int) (w : Int) : Nat → Nat → Int
  | 0, _ => -1
  | r + 1, k => if W k = w then (k : Int) else fdF W w r (k + 1)
def fdN (D W : Nat → Int) (w : Int) : Int := fdF W w (nN D) 0
theorem fdF_b {W : Nat → Int} {w : Int} : ∀ r k, -1 ≤ fdF W w r k ∧ fdF W w r k < ((k + r : Nat) : Int) := by
  intro r
  induction r with
  | zero => intro k; exact ⟨by show (-1 : Int) ≤ -1; omega, by show (-1 : Int) < _; omega⟩
  | succ r ih =>
    intro k
    rw [fdF]
    have := ih (k + 1)
    split <;> omega
theorem fdN_b {D W : Nat → Int} {w : Int} : -1 ≤ fdN D W w ∧ fdN D W w < (nN D : Int) := by
  have := fdF_b (W := W) (w := w) (nN D) 0
  unfold fdN
  omega
theorem fdF_cg {W W' : Nat → Int} {w : Int} : ∀ r k, (∀ j : Nat, k ≤ j → j < k + r → W j = W' j) → fdF W w r k = fdF W' w r k := by
  intro r
  induction r with
  | zero => intro k _; rfl
  | succ r ih =>
    intro k h
    rw [fdF, fdF, h k (by omega) (by omega), ih (k + 1) (fun j h1 h2 => h j (by omega) (by omega))]
theorem x_find_l (h : zHp) (D : Nat → Int) (hb : dB D) (e0 : h 4 0 = D 0) (w : Int) : ∀ (r k : Nat), k + r = nN D → zRW mX5_find 0 (0, 0) 2 [zA 4, zJ w, zU, zI k] [] 143 h (zqi (fun v h' => fdF (h 5) w r k = v ∧ h = h')) := by
  have hN := nN_eq hb
  have hN8 := nN_le hb
  intro r
  induction r using Nat.strongRecOn with
  | ind r ih =>
    intro k hk
    refine z_il3 eX5_find_2 ?_
    refine z_al0 eX5_find_3 ?_
    refine z_gi eX5_find_4 fX5_40 zs4 ?_
    refine z_cge eX5_find_7 rfl (fun c7 => ?_) (fun c7 => ?_)
    · refine z_ki eX5_find_29 ?_
      refine ze_i eX5_find_30 rfl ?_
      refine ⟨?_, rfl⟩
      obtain rfl : r = 0 := by omega
      rfl
    · refine z_al0 eX5_find_10 ?_
      refine z_ga eX5_find_11 fX5_9 zs4 (t := 5) rfl ?_
      refine z_il3 eX5_find_14 ?_
      refine zr_lN eX5_find_15 zs5 (j := k) (by omega) (by omega) ?_
      refine z_ll1 eX5_find_16 ?_
      refine z_lcmp eX5_find_17 ?_
      refine z_ine eX5_find_18 rfl (fun c18 => ?_) (fun c18 => ?_)
      · rw [zcmp_ne] at c18
        refine z_incN3 eX5_find_23 zn9 (by omega) (by omega) ?_
        refine z_goto eX5_find_26 rfl ?_
        have q := ih (r - 1) (by omega) (k + 1) (by omega)
        rw [show fdF (h 5) w r k = fdF (h 5) w (r - 1) (k + 1) by
          obtain ⟨r, rfl⟩ : ∃ n, r = n + 1 := ⟨r - 1, by omega⟩
          rw [fdF]
          exact if_neg (by omega)]
        exact q
      · rw [zcmp_ne] at c18
        refine z_il3 eX5_find_21 ?_
        refine ze_i eX5_find_22 rfl ?_
        refine ⟨?_, rfl⟩
        obtain ⟨r, rfl⟩ : ∃ n, r = n + 1 := ⟨r - 1, by omega⟩
        rw [fdF]
        exact if_pos (by omega)
theorem x_find (h : zHp) (D : Nat → Int) (hb : dB D) (e0 : h 4 0 = D 0) (w : Int) : zCi mX5_find 0 [zA 4, zJ w] h (fun v h' => fdN D (h 5) w = v ∧ h = h') := by
  refine z_enter [zA 4, zJ w, zU, zU] (by decide +kernel) (Nat.le_of_ble_eq_true rfl) rfl (fun hra hrg => ?_)
  refine z_ki eX5_find_0 ?_
  refine z_is3 eX5_find_1 zn9 ?_
  exact x_find_l h D hb e0 w (nN D) 0 (Nat.zero_add _)
theorem r_named_l (h : zHp) (D : Nat → Int) (hD : h 122 = D) (hb : dB D) (w : Int) : ∀ (r k : Nat), k + r = nN D → zRW mX12_named 0 (0, 0) 2 [zA 117, zJ w, zU, zI k] [] 143 h (zqi (fun v h' => fdF (h 123) w r k = v ∧ h = h')) := by
  have hN := nN_eq hb
  have hN8 := nN_le hb
  intro r
  induction r using Nat.strongRecOn with
  | ind r ih =>
    intro k hk
    refine z_il3 eX12_named_2 ?_
    refine z_al0 eX12_named_3 ?_
    refine z_ga eX12_named_4 fX12_35 zs117 (t := 122) rfl ?_
    refine z_ki eX12_named_7 ?_
    refine zr_iN eX12_named_8 zs122 (j := 0) (by omega) (by omega) ?_
    rw [hD]
    refine z_cge eX12_named_9 rfl (fun c9 => ?_) (fun c9 => ?_)
    · refine z_ki eX12_named_31 ?_
      refine ze_i eX12_named_32 rfl ?_
      refine ⟨?_, rfl⟩
      obtain rfl : r = 0 := by omega
      rfl
    · refine z_al0 eX12_named_12 ?_
      refine z_ga eX12_named_13 fX12_38 zs117 (t := 123) rfl ?_
      refine z_il3 eX12_named_16 ?_
      refine zr_lN eX12_named_17 zs123 (j := k) (by omega) (by omega) ?_
      refine z_ll1 eX12_named_18 ?_
      refine z_lcmp eX12_named_19 ?_
      refine z_ine eX12_named_20 rfl (fun c20 => ?_) (fun c20 => ?_)
      · rw [zcmp_ne] at c20
        refine z_incN3 eX12_named_25 zn9 (by omega) (by omega) ?_
        refine z_goto eX12_named_28 rfl ?_
        have q := ih (r - 1) (by omega) (k + 1) (by omega)
        rw [show fdF (h 123) w r k = fdF (h 123) w (r - 1) (k + 1) by
          obtain ⟨r, rfl⟩ : ∃ n, r = n + 1 := ⟨r - 1, by omega⟩
          rw [fdF]
          exact if_neg (by omega)]
        exact q
      · rw [zcmp_ne] at c20
        refine z_il3 eX12_named_23 ?_
        refine ze_i eX12_named_24 rfl ?_
        refine ⟨?_, rfl⟩
        obtain ⟨r, rfl⟩ : ∃ n, r = n + 1 := ⟨r - 1, by omega⟩
        rw [fdF]
        exact if_pos (by omega)
theorem r_named (h : zHp) (D : Nat → Int) (hD : h 122 = D) (hb : dB D) (w : Int) : zCi mX12_named 0 [zA 117, zJ w] h (fun v h' => fdN D (h 123) w = v ∧ h = h') := by
  refine z_enter [zA 117, zJ w, zU, zU] (by decide +kernel) (Nat.le_of_ble_eq_true rfl) rfl (fun hra hrg => ?_)
  refine z_ki eX12_named_0 ?_
  refine z_is3 eX12_named_1 zn9 ?_
  exact r_named_l h D hD hb w (nN D) 0 (Nat.zero_add _)
def soP (D W : Nat → Int) (w ng : Int) : Prop := (0 ≤ fdN D W w ∧ winNow D (D 2).toNat = fdN D W w) ↔ ¬ ng = 1
def soV (D W : Nat → Int) (w ng : Int) : Int := if 0 ≤ fdN D W w ∧ winNow D (D 2).toNat = fdN D W w then (if ng = 1 then 0 else 1) else (if ng = 1 then 1 else 0)
theorem fdN_H {h : zHp} {a : Nat} {D W : Nat → Int} (H : hallR h a D W) (w : Int) : fdN D (h (a + 1)) w = fdN D W w := fdF_cg _ _ (fun j _ hj => (H.2.2.2.2.2.1 j (by omega)).1)
/-- the class's hall and rule stand for D and the words W -/
def HR (g : zHp) (D W : Nat → Int) : Prop := hallR g 4 D W ∧ ruleR g 24 D
def wD (g : zHp) (D W : Nat → Int) : zHp := fun a => if a = 122 then D else if a = 123 then W else g a
theorem wD_D (g : zHp) (D W : Nat → Int) : wD g D W 122 = D := rfl
theorem wD_W (g : zHp) (D W : Nat → Int) : wD g D W 123 = W := rfl
theorem wD_a {g : zHp} {D W : Nat → Int} {a : Nat} (h1 : ¬ a = 122) (h2 : ¬ a = 123) : wD g D W a = g a := by unfold wD; rw [if_neg h1, if_neg h2]
theorem HR_v {g : zHp} {D W : Nat → Int} : HR g D W ↔ rHR (wD g D W) := Iff.rfl
theorem HR_r {h : zHp} (H : rHR h) : HR h (h 122) (h 123) := H
theorem HR_fr {h g : zHp} {D W : Nat → Int} (H : HR h D W) (e : ∀ b : Nat, (4 ≤ b ∧ b ≤ 13 ∨ 24 ≤ b ∧ b ≤ 27) → g b = h b) : HR g D W := ⟨hallR_cg (fun b h1 h2 => e b (by omega)) (fun _ _ => rfl) (fun _ _ => rfl) H.1, ruleR_cg H.1.1 (fun b h1 h2 => e b (by omega)) (fun _ _ => rfl) H.2⟩
theorem HR_upd {h g : zHp} {D D' W : Nat → Int} (H : HR h D W) (hc : ∀ b : Nat, (5 ≤ b ∧ b ≤ 8 ∨ 11 ≤ b ∧ b ≤ 13 ∨ 24 ≤ b ∧ b ≤ 27) → g b = h b) (h40 : g 4 0 = h 4 0) (h47 : g 4 7 = h 4 7) (eD : ∀ j : Nat, ¬ j = 2 → ¬ (20 ≤ j ∧ j < 60) → j < 300 → D' j = D j) (h2 : 0 ≤ D' 2 ∧ D' 2 < ((2 ^ nN D : Nat) : Int)) (h41 : g 4 1 = D' 2) (h3 : ∀ s : Nat, s < nS D → g 9 s = D' (20 + s) ∧ g 10 s = D' (40 + s) ∧ 0 ≤ D' (20 + s) ∧ 0 ≤ D' (40 + s) ∧ D' (20 + s) + D' (40 + s) ≤ 198) : HR g D' W :=
  HR_v.mpr (rHR_upd (HR_v.mp H) (fun b q => by rw [wD_a (by omega) (by omega), wD_a (by omega) (by omega)]; exact hc b q) h40 h47 eD (fun _ _ => rfl) h2 h41 h3)
theorem x_winG {h : zHp} {D W : Nat → Int} (H : HR h D W) (set : Nat) (hset : set < 2 ^ nN D) : zCi mX2_winnerOf 3 [zA 50, zI set, zA 9] h (fun v h' => winNow D set = v ∧ zFr 51 h h') :=
  have hw : ∀ s, s < nS D → h 9 s = inOf D s := fun s hs => (H.1.2.2.2.2.2.2.1 s hs).1
  zCi_wk (x_winner D (h 9) (pX h 4) H.1.1 H.1.2.2.2.2.2.2.2.2 (vB_congr (fun s hs => (hw s hs).symm) (inOf_b H.1.1)) 9 rfl (by decide) h (hallR_hX H.1) (ruleR_rX H.2) rfl set hset) (fun v h' q => ⟨(winW_congr (fun s hs => (hw s hs).symm) set).trans q.1, q.2⟩)
theorem x_isSo (h : zHp) (D W : Nat → Int) (H : HR h D W) (n : Nat) (hn : n < 80) (hng : h 37 n = 0 ∨ h 37 n = 1) : zCi mX3_isSo 4 [zA 65, zI n] h (fun v h' => soV D W (h 36 n) (h 37 n) = v ∧ zFr 51 h h') := by
  refine z_enter [zA 65, zI n, zU, zU] (by decide +kernel) (Nat.le_of_ble_eq_true rfl) rfl (fun hra hrg => ?_)
  obtain ⟨⟨hb, hst, e0, e1, e7, ek, es, eo, hp⟩, hru⟩ := id H
  have hN := nN_eq hb
  have hS := nS_eq hb
  have hN8 := nN_le hb
  have hS20 := nS_le hb
  have hb2 := hb.2.2.1
  have fb := fdN_b (D := D) (W := W) (w := h 36 n)
  refine z_al0 eX3_isSo_0 ?_
  refine z_ga eX3_isSo_1 fX3_21 zs65 (t := 4) rfl ?_
  refine z_al0 eX3_isSo_4 ?_
  refine z_ga eX3_isSo_5 fX3_17 zs65 (t := 32) rfl ?_
  refine z_ga eX3_isSo_8 fX3_64 zs32 (t := 36) rfl ?_
  refine z_il1 eX3_isSo_11 ?_
  refine zr_lN eX3_isSo_12 zs36 (j := n) (by omega) (by omega) ?_
  refine zc_vi1 eX3_isSo_13 lX3_68 tX5_find zs4 (by decide) (Nat.le_of_ble_eq_true rfl) (x_find _ _ hb e0 _) ?_
  rw [show fdN D (h 5) (h 36 n) = fdN D W (h 36 n) from fdN_H (a := 4) H.1 _]
  rintro _ _ ⟨rfl, rfl⟩ -
  refine z_is2 eX3_isSo_16 zn0 ?_
  refine z_il2 eX3_isSo_17 ?_
  refine z_ki eX3_isSo_18 ?_
  refine z_ceq eX3_isSo_19 rfl (fun c19 => ?_) (fun c19 => ?_)
  · refine z_ki eX3_isSo_51 ?_
    refine z_is3 eX3_isSo_52 zn0 ?_
    refine z_il3 eX3_isSo_53 ?_
    refine z_al0 eX3_isSo_54 ?_
    refine z_ga eX3_isSo_55 fX3_17 zs65 (t := 32) rfl ?_
    refine z_ga eX3_isSo_58 fX3_100 zs32 (t := 37) rfl ?_
    refine z_il1 eX3_isSo_61 ?_
    refine zr_zN eX3_isSo_62 zs37 (j := n) (by omega) (by omega) ?_
    refine z_ceq eX3_isSo_63 rfl (fun c63 => ?_) (fun c63 => ?_)
    · refine z_ki eX3_isSo_70 ?_
      refine ze_z eX3_isSo_71 rfl (by first | exact Or.inl rfl | exact Or.inr rfl) ?_
      refine ⟨?_, zFr.rf⟩
      unfold soV
      (repeat' split) <;> first | (exfalso; omega) | rfl | omega
    · refine z_ki eX3_isSo_66 ?_
      refine z_goto eX3_isSo_67 rfl ?_
      refine ze_z eX3_isSo_71 rfl (by first | exact Or.inl rfl | exact Or.inr rfl) ?_
      refine ⟨?_, zFr.rf⟩
      unfold soV
      (repeat' split) <;> first | (exfalso; omega) | rfl | omega
  · refine z_al0 eX3_isSo_22 ?_
    refine z_ga eX3_isSo_23 fX3_25 zs65 (t := 50) rfl ?_
    refine z_al0 eX3_isSo_26 ?_
    refine z_ga eX3_isSo_27 fX3_21 zs65 (t := 4) rfl ?_
    refine z_gi eX3_isSo_30 fX3_88 zs4 ?_
    rw [e1, stN hb]
    refine z_al0 eX3_isSo_33 ?_
    refine z_ga eX3_isSo_34 fX3_21 zs65 (t := 4) rfl ?_
    refine z_ga eX3_isSo_37 fX3_91 zs4 (t := 9) rfl ?_
    refine zc_vi2 eX3_isSo_40 lX3_94 tX2_winnerOf zs50 (by decide) (Nat.le_of_ble_eq_true rfl) (x_winG H _ (stL hb hst)) ?_
    rintro _ g ⟨rfl, hfr⟩ -
    refine z_il2 eX3_isSo_43 ?_
    refine z_cne eX3_isSo_44 rfl (fun c44 => ?_) (fun c44 => ?_)
    · refine z_ki eX3_isSo_51 ?_
      refine z_is3 eX3_isSo_52 zn0 ?_
      refine z_il3 eX3_isSo_53 ?_
      refine z_al0 eX3_isSo_54 ?_
      refine z_ga eX3_isSo_55 fX3_17 zs65 (t := 32) rfl ?_
      refine z_ga eX3_isSo_58 fX3_100 zs32 (t := 37) rfl ?_
      refine z_il1 eX3_isSo_61 ?_
      refine zr_zN eX3_isSo_62 zs37 (j := n) (by omega) (by omega) ?_
      rw [hfr 37 (by decide)]
      refine z_ceq eX3_isSo_63 rfl (fun c63 => ?_) (fun c63 => ?_)
      · refine z_ki eX3_isSo_70 ?_
        refine ze_z eX3_isSo_71 rfl (by first | exact Or.inl rfl | exact Or.inr rfl) ?_
        refine ⟨?_, hfr⟩
        unfold soV
        (repeat' split) <;> first | (exfalso; omega) | rfl | omega
      · refine z_ki eX3_isSo_66 ?_
        refine z_goto eX3_isSo_67 rfl ?_
        refine ze_z eX3_isSo_71 rfl (by first | exact Or.inl rfl | exact Or.inr rfl) ?_
        refine ⟨?_, hfr⟩
        unfold soV
        (repeat' split) <;> first | (exfalso; omega) | rfl | omega
    · refine z_ki eX3_isSo_47 ?_
      refine z_goto eX3_isSo_48 rfl ?_
      refine z_is3 eX3_isSo_52 zn0 ?_
      refine z_il3 eX3_isSo_53 ?_
      refine z_al0 eX3_isSo_54 ?_
      refine z_ga eX3_isSo_55 fX3_17 zs65 (t := 32) rfl ?_
      refine z_ga eX3_isSo_58 fX3_100 zs32 (t := 37) rfl ?_
      refine z_il1 eX3_isSo_61 ?_
      refine zr_zN eX3_isSo_62 zs37 (j := n) (by omega) (by omega) ?_
      rw [hfr 37 (by decide)]
      refine z_ceq eX3_isSo_63 rfl (fun c63 => ?_) (fun c63 => ?_)
      · refine z_ki eX3_isSo_70 ?_
        refine ze_z eX3_isSo_71 rfl (by first | exact Or.inl rfl | exact Or.inr rfl) ?_
        refine ⟨?_, hfr⟩
        unfold soV
        (repeat' split) <;> first | (exfalso; omega) | rfl | omega
      · refine z_ki eX3_isSo_66 ?_
        refine z_goto eX3_isSo_67 rfl ?_
        refine ze_z eX3_isSo_71 rfl (by first | exact Or.inl rfl | exact Or.inr rfl) ?_
        refine ⟨?_, hfr⟩
        unfold soV
        (repeat' split) <;> first | (exfalso; omega) | rfl | omega
theorem r_isSo (h : zHp) (D : Nat → Int) (hD : h 122 = D) (hb : dB D) (hst : D 2 < ((2 ^ nN D : Nat) : Int)) (n : Nat) (hn : n < 40) (hng : h 127 n = 0 ∨ h 127 n = 1) : zCi mX12_isSo 8 [zA 117, zI n] h (fun v h' => soV D (h 123) (h 134 n) (h 127 n) = v ∧ zMf h h' ∧ (∀ a : Nat, ¬ a = 117 → ¬ a = 124 → ¬ a = 125 → h' a = h a) ∧ (∀ i : Nat, ¬ i = 25 → h' 117 i = h 117 i)) := by
  refine z_enter [zA 117, zI n, zU, zU] (by decide +kernel) (Nat.le_of_ble_eq_true rfl) rfl (fun hra hrg => ?_)
  have hN := nN_eq hb
  have hS := nS_eq hb
  have hN8 := nN_le hb
  have hS20 := nS_le hb
  have hb2 := hb.2.2.1
  have fb := fdN_b (D := D) (W := h 123) (w := h 134 n)
  refine z_al0 eX12_isSo_0 ?_
  refine z_al0 eX12_isSo_1 ?_
  refine z_ga eX12_isSo_2 fX12_71 zs117 (t := 134) rfl ?_
  refine z_il1 eX12_isSo_5 ?_
  refine zr_lN eX12_isSo_6 zs134 (j := n) (by omega) (by omega) ?_
  refine zc_vi1 eX12_isSo_7 lX12_501 tX12_named zs117 (by decide) (Nat.le_of_ble_eq_true rfl) (r_named _ _ hD hb _) ?_
  rintro _ _ ⟨rfl, rfl⟩ -
  refine z_is2 eX12_isSo_10 zn0 ?_
  refine z_il2 eX12_isSo_11 ?_
  refine z_ilt eX12_isSo_12 rfl (fun c12 => ?_) (fun c12 => ?_)
  · refine z_ki eX12_isSo_27 ?_
    refine z_is3 eX12_isSo_28 zn0 ?_
    refine z_al0 eX12_isSo_29 ?_
    refine z_ga eX12_isSo_30 fX12_50 zs117 (t := 127) rfl ?_
    refine z_il1 eX12_isSo_33 ?_
    refine zr_iN eX12_isSo_34 zs127 (j := n) (by omega) (by omega) ?_
    refine z_ki eX12_isSo_35 ?_
    refine z_cne eX12_isSo_36 rfl (fun c36 => ?_) (fun c36 => ?_)
    · refine z_il3 eX12_isSo_51 ?_
      refine ze_z eX12_isSo_52 rfl (by first | exact Or.inl rfl | exact Or.inr rfl) ?_
      refine ⟨?_, zMf.rf, fun a _ _ _ => rfl, fun i _ => rfl⟩
      unfold soV
      (repeat' split) <;> first | (exfalso; omega) | rfl | omega
    · refine z_il3 eX12_isSo_39 ?_
      refine z_ine eX12_isSo_40 rfl (fun c40 => ?_) (fun c40 => ?_)
      · refine z_ki eX12_isSo_47 ?_
        refine z_goto eX12_isSo_48 rfl ?_
        refine ze_z eX12_isSo_52 rfl (by first | exact Or.inl rfl | exact Or.inr rfl) ?_
        refine ⟨?_, zMf.rf, fun a _ _ _ => rfl, fun i _ => rfl⟩
        unfold soV
        (repeat' split) <;> first | (exfalso; omega) | rfl | omega
      · refine z_ki eX12_isSo_43 ?_
        refine z_goto eX12_isSo_44 rfl ?_
        refine ze_z eX12_isSo_52 rfl (by first | exact Or.inl rfl | exact Or.inr rfl) ?_
        refine ⟨?_, zMf.rf, fun a _ _ _ => rfl, fun i _ => rfl⟩
        unfold soV
        (repeat' split) <;> first | (exfalso; omega) | rfl | omega
  · refine z_al0 eX12_isSo_15 ?_
    refine zc_vi0 eX12_isSo_16 lX12_326 tX12_winnerNow zs117 (by decide) (Nat.le_of_ble_eq_true rfl) (r_winnerNow _ _ hD hb (stL hb hst)) ?_
    rintro _ g1 ⟨rfl, hfr⟩ -
    have hmf : zMf h g1 := (zMf.rf.cA _ _ _).fr hfr (by decide) (fun _ => rfl)
    refine z_il2 eX12_isSo_19 ?_
    refine z_cne eX12_isSo_20 rfl (fun c20 => ?_) (fun c20 => ?_)
    · refine z_ki eX12_isSo_27 ?_
      refine z_is3 eX12_isSo_28 zn0 ?_
      refine z_al0 eX12_isSo_29 ?_
      refine z_ga eX12_isSo_30 fX12_50 zs117 (t := 127) rfl ?_
      refine z_il1 eX12_isSo_33 ?_
      refine zr_iN eX12_isSo_34 zs127 (j := n) (by omega) (by omega) ?_
      rw [hfr 127 (by decide), cA_off (by decide) (by decide)]
      refine z_ki eX12_isSo_35 ?_
      refine z_cne eX12_isSo_36 rfl (fun c36 => ?_) (fun c36 => ?_)
      · refine z_il3 eX12_isSo_51 ?_
        refine ze_z eX12_isSo_52 rfl (by first | exact Or.inl rfl | exact Or.inr rfl) ?_
        refine ⟨?_, hmf, fun a h1 h2 h3 => by rw [hfr a h3, cA_off h1 h2], fun i hi => by rw [hfr 117 (by decide)]; exact cA_f hi⟩
        unfold soV
        (repeat' split) <;> first | (exfalso; omega) | rfl | omega
      · refine z_il3 eX12_isSo_39 ?_
        refine z_ine eX12_isSo_40 rfl (fun c40 => ?_) (fun c40 => ?_)
        · refine z_ki eX12_isSo_47 ?_
          refine z_goto eX12_isSo_48 rfl ?_
          refine ze_z eX12_isSo_52 rfl (by first | exact Or.inl rfl | exact Or.inr rfl) ?_
          refine ⟨?_, hmf, fun a h1 h2 h3 => by rw [hfr a h3, cA_off h1 h2], fun i hi => by rw [hfr 117 (by decide)]; exact cA_f hi⟩
          unfold soV
          (repeat' split) <;> first | (exfalso; omega) | rfl | omega
        · refine z_ki eX12_isSo_43 ?_
          refine z_goto eX12_isSo_44 rfl ?_
          refine ze_z eX12_isSo_52 rfl (by first | exact Or.inl rfl | exact Or.inr rfl) ?_
          refine ⟨?_, hmf, fun a h1 h2 h3 => by rw [hfr a h3, cA_off h1 h2], fun i hi => by rw [hfr 117 (by decide)]; exact cA_f hi⟩
          unfold soV
          (repeat' split) <;> first | (exfalso; omega) | rfl | omega
    · refine z_ki eX12_isSo_23 ?_
      refine z_goto eX12_isSo_24 rfl ?_
      refine z_is3 eX12_isSo_28 zn0 ?_
      refine z_al0 eX12_isSo_29 ?_
      refine z_ga eX12_isSo_30 fX12_50 zs117 (t := 127) rfl ?_
      refine z_il1 eX12_isSo_33 ?_
      refine zr_iN eX12_isSo_34 zs127 (j := n) (by omega) (by omega) ?_
      rw [hfr 127 (by decide), cA_off (by decide) (by decide)]
      refine z_ki eX12_isSo_35 ?_
      refine z_cne eX12_isSo_36 rfl (fun c36 => ?_) (fun c36 => ?_)
      · refine z_il3 eX12_isSo_51 ?_
        refine ze_z eX12_isSo_52 rfl (by first | exact Or.inl rfl | exact Or.inr rfl) ?_
        refine ⟨?_, hmf, fun a h1 h2 h3 => by rw [hfr a h3, cA_off h1 h2], fun i hi => by rw [hfr 117 (by decide)]; exact cA_f hi⟩
        unfold soV
        (repeat' split) <;> first | (exfalso; omega) | rfl | omega
      · refine z_il3 eX12_isSo_39 ?_
        refine z_ine eX12_isSo_40 rfl (fun c40 => ?_) (fun c40 => ?_)
        · refine z_ki eX12_isSo_47 ?_
          refine z_goto eX12_isSo_48 rfl ?_
          refine ze_z eX12_isSo_52 rfl (by first | exact Or.inl rfl | exact Or.inr rfl) ?_
          refine ⟨?_, hmf, fun a h1 h2 h3 => by rw [hfr a h3, cA_off h1 h2], fun i hi => by rw [hfr 117 (by decide)]; exact cA_f hi⟩
          unfold soV
          (repeat' split) <;> first | (exfalso; omega) | rfl | omega
        · refine z_ki eX12_isSo_43 ?_
          refine z_goto eX12_isSo_44 rfl ?_
          refine ze_z eX12_isSo_52 rfl (by first | exact Or.inl rfl | exact Or.inr rfl) ?_
          refine ⟨?_, hmf, fun a h1 h2 h3 => by rw [hfr a h3, cA_off h1 h2], fun i hi => by rw [hfr 117 (by decide)]; exact cA_f hi⟩
          unfold soV
          (repeat' split) <;> first | (exfalso; omega) | rfl | omega
