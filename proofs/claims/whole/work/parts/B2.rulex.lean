-- the class's rule (written by wip/tools/specB2.py)
/-- one clause of the class's rule at cell a -/
def clR (h : zHp) (a : Nat) (D : Nat → Int) (c : Nat) : Prop := (D (241 + c) = 2 → h (a + 1) c = 1) ∧ (D (241 + c) = 3 → h (a + 1) c = 2) ∧ (D (241 + c) = 5 → h (a + 1) c = 3 ∧ h (a + 2) c = D (245 + c)) ∧ ((D (241 + c) = 0 ∨ D (241 + c) = 1 ∨ D (241 + c) = 4) → h (a + 1) c = 0 ∧ ∃ mn : Nat, mn ≤ 8 ∧ h (a + 2) c = (mn : Int) ∧ (∀ i : Nat, i < mn → h (a + 3) (8 * c + i) = eachP D c i) ∧ ∀ q : Int, (mn : Int) ≤ q → eachP D c q = 0)
theorem ruleR_cl {h : zHp} {a : Nat} {D : Nat → Int} : ruleR h a D ↔ h a 0 = D 240 ∧ ∀ c : Nat, (c : Int) < D 240 → clR h a D c := Iff.rfl
/-- what is free while clause c is read -/
def inC (c j : Nat) : Prop := j = 241 + c ∨ j = 245 + c ∨ j = 249 + c ∨ (253 + 8 * c ≤ j ∧ j < 253 + 8 * c + 8)
def xCf (c : Nat) (h g : zHp) : Prop := (∀ x : Nat, ¬ x = 2 → ¬ x = 29 → ¬ x = 30 → ¬ x = 31 → g x = h x) ∧ (∀ i : Nat, ¬ i = c → g 29 i = h 29 i ∧ g 30 i = h 30 i) ∧ ∀ j : Nat, ¬ (8 * c ≤ j ∧ j < 8 * c + 8) → g 31 j = h 31 j
theorem xCf.rf {c : Nat} {h : zHp} : xCf c h h := ⟨fun _ _ _ _ _ => rfl, fun _ _ => ⟨rfl, rfl⟩, fun _ _ => rfl⟩
theorem xCf.fr {c : Nat} {h g f : zHp} (H : xCf c h g) (F : xFr g f) : xCf c h f := ⟨fun x x1 x2 x3 x4 => (F.1 x x1).trans (H.1 x x1 x2 x3 x4), fun i hi => by rw [F.1 29 (by decide), F.1 30 (by decide)]; exact H.2.1 i hi, fun j hj => by rw [F.1 31 (by decide)]; exact H.2.2 j hj⟩
theorem xCf.up {c : Nat} {h g : zHp} (H : xCf c h g) {x i : Nat} (hx : (x = 29 ∧ i = c) ∨ (x = 30 ∧ i = c) ∨ (x = 31 ∧ 8 * c ≤ i ∧ i < 8 * c + 8)) (v : Int) : xCf c h (zup g x i v) := ⟨fun y y1 y2 y3 y4 => by rw [zup_off (by omega)]; exact H.1 y y1 y2 y3 y4, fun j hj => by rw [zup_ne (by omega), zup_ne (by omega)]; exact H.2.1 j hj, fun j hj => by rw [zup_ne (by omega)]; exact H.2.2 j hj⟩
/-- the points of a clause go by its numbers -/
def ptI (D : Nat → Int) (c n : Nat) (pt : Nat → Int) : Prop := ∀ i : Nat, i < n → pt (8 * c + i) = D (253 + 8 * c + i)
/-- the class after a clause -/
def xC (h0 h : zHp) (B : Nat → Int) (L q0 c : Nat) (D : Nat → Int) (R : Rh) (v : Int) (g : zHp) : Prop := match R with
  | .inl e => (0 : Int) = v ∧ xXs 28 31 h0 e.1 e.2 g
  | .inr s => (1 : Int) = v ∧ q0 < s.1 ∧ s.1 ≤ L ∧ g 2 3 = (s.1 : Int) ∧ xTs 28 31 h0 B L g ∧ xCf c h g ∧ clR g 28 s.2.1 c ∧ (∀ j : Nat, ¬ inC c j → s.2.1 j = D j) ∧ 0 ≤ s.2.1 (249 + c) ∧ s.2.1 (249 + c) ≤ 8
theorem xC01 {h0 h g : zHp} {B : Nat → Int} {L q0 c : Nat} {D : Nat → Int} {R : Rh} {v : Int} (H : xC h0 h B L q0 c D R v g) : v = 0 ∨ v = 1 := by
  cases R with
  | inl e => exact Or.inl H.1.symm
  | inr s => exact Or.inr H.1.symm
theorem eachP_0 {D : Nat → Int} {c : Nat} {p : Int} (h : D (241 + c) = 0) : eachP D c p = if p = 0 then 1 else 0 := if_pos h
theorem eachP_4 {D : Nat → Int} {c : Nat} {p : Int} (h : D (241 + c) = 4) : eachP D c p = if p < D (245 + c) then 1 else 0 := by unfold eachP; rw [if_neg (by omega), if_pos h]
theorem eachP_1 {D : Nat → Int} {c : Nat} {p : Int} (h : D (241 + c) = 1) : eachP D c p = if p < D (249 + c) then D (253 + 8 * c + p.toNat) else 0 := by unfold eachP; rw [if_neg (by omega), if_neg (by omega)]
theorem clR_1 {g : zHp} {D : Nat → Int} {c n : Nat} (hn : n ≤ 8) (hk : D (241 + c) = 1) (h1 : g 29 c = 0) (h2 : g 30 c = (n : Int)) (h3 : D (249 + c) = (n : Int)) (h4 : ptI D c n (g 31)) : clR g 28 D c := by
  refine ⟨fun z => by omega, fun z => by omega, fun z => by omega, fun _ => ⟨h1, n, hn, h2, fun i hi => ?_, fun q hq => ?_⟩⟩
  · rw [eachP_1 hk, if_pos (by omega), Int.toNat_natCast]
    exact h4 i hi
  · rw [eachP_1 hk, if_neg (by omega)]
theorem clR_o {g : zHp} {D : Nat → Int} {c n : Nat} (hn : n ≤ 8) (hk : D (241 + c) = 0 ∧ n = 1 ∨ D (241 + c) = 4 ∧ D (245 + c) = (n : Int)) (h1 : g 29 c = 0) (h2 : g 30 c = (n : Int)) (h4 : ∀ i : Nat, i < n → g 31 (8 * c + i) = 1) : clR g 28 D c := by
  refine ⟨fun z => by omega, fun z => by omega, fun z => by omega, fun _ => ⟨h1, n, hn, h2, fun i hi => ?_, fun q hq => ?_⟩⟩
  · refine (h4 i hi).trans ?_
    rcases hk with ⟨z, y⟩ | ⟨z, y⟩
    · rw [eachP_0 z, if_pos (by omega)]
    · rw [eachP_4 z, if_pos (by omega)]
  · rcases hk with ⟨z, y⟩ | ⟨z, y⟩
    · rw [eachP_0 z, if_neg (by omega)]
    · rw [eachP_4 z, if_neg (by omega)]
theorem x_on_l (h : zHp) (c m : Nat) (hc : c < 4) (hm : m ≤ 8) : ∀ (r i : Nat) (g : zHp), i + r = m → xCf c h g → g 29 = h 29 → g 30 c = (m : Int) → (∀ j : Nat, j < i → g 31 (8 * c + j) = 1) → g 2 = h 2 → zRW mX7_putOnes 0 (0, 0) 9 [zA 28, zI c, zI m, zI i] [] 143 g (zqv (fun h' => xCf c h h' ∧ h' 29 = h 29 ∧ h' 30 c = (m : Int) ∧ (∀ j : Nat, j < m → h' 31 (8 * c + j) = 1) ∧ h' 2 = h 2)) := by
  intro r
  induction r using Nat.strongRecOn with
  | ind r ih =>
    intro i g hk C e9 e0 e1 e2
    refine z_il3 eX7_putOnes_9 ?_
    refine z_il2 eX7_putOnes_10 ?_
    refine z_cge eX7_putOnes_11 rfl (fun c11 => ?_) (fun c11 => ?_)
    · refine ze_v eX7_putOnes_38 rfl ?_
      have e : i = m := by omega
      subst e
      exact ⟨C, e9, e0, e1, e2⟩
    · refine z_il3 eX7_putOnes_14 ?_
      refine z_ki eX7_putOnes_15 ?_
      refine z_cge eX7_putOnes_17 rfl (fun c17 => ?_) (fun c17 => ?_)
      · omega
      · refine z_al0 eX7_putOnes_20 ?_
        refine z_ga eX7_putOnes_21 fX7_22 zs28 (t := 31) rfl ?_
        refine z_il1 eX7_putOnes_24 ?_
        refine z_ki eX7_putOnes_25 ?_
        refine z_imulN eX7_putOnes_27 (by omega) (by omega) ?_
        refine z_il3 eX7_putOnes_28 ?_
        refine z_iaddN eX7_putOnes_29 (by omega) (by omega) ?_
        refine z_ki eX7_putOnes_30 ?_
        refine zs_iN eX7_putOnes_31 zs31 (j := 8 * c + i) (by omega) (by omega) ?_
        refine z_incN3 eX7_putOnes_32 zn0 (by omega) (by omega) ?_
        refine z_goto eX7_putOnes_35 rfl ?_
        refine ih (r - 1) (by omega) (i + 1) _ (by omega) (C.up (Or.inr (Or.inr ⟨rfl, by omega, by omega⟩)) _) (by rw [zup_off (by decide)]; exact e9) (by rw [zup_off (by decide)]; exact e0) (fun j hj => ?_) (by rw [zup_off (by decide)]; exact e2)
        by_cases z : j = i
        · rw [z, zup_at]
        · rw [zup_ne (by omega)]; exact e1 j (by omega)
theorem x_ones (h : zHp) (c m : Nat) (hc : c < 4) (hm : m ≤ 8) : zCv mX7_putOnes 0 [zA 28, zI c, zI m] h (fun h' => xCf c h h' ∧ h' 29 = h 29 ∧ h' 30 c = (m : Int) ∧ (∀ j : Nat, j < m → h' 31 (8 * c + j) = 1) ∧ h' 2 = h 2) := by
  refine z_enter [zA 28, zI c, zI m, zU] (by decide +kernel) (Nat.le_of_ble_eq_true rfl) rfl (fun hra hrg => ?_)
  refine z_al0 eX7_putOnes_0 ?_
  refine z_ga eX7_putOnes_1 fX7_19 zs28 (t := 30) rfl ?_
  refine z_il1 eX7_putOnes_4 ?_
  refine z_il2 eX7_putOnes_5 ?_
  refine zs_iN eX7_putOnes_6 zs30 (j := c) (by omega) (by omega) ?_
  refine z_ki eX7_putOnes_7 ?_
  refine z_is3 eX7_putOnes_8 zn0 ?_
  exact x_on_l h c m hc hm m 0 _ (by omega) (xCf.rf.up (Or.inr (Or.inl ⟨rfl, rfl⟩)) _) (by rw [zup_off (by decide)]) (by rw [zup_at]) (fun j hj => by omega) (by rw [zup_off (by decide)])
theorem x_pt_l (h0 h : zHp) (B : Nat → Int) (L q0 c : Nat) (D0 W : Nat → Int) (ht : Int) (hc : c < 4) (hk : D0 (241 + c) = 1) (h29 : h 29 c = 0) : ∀ (f i q : Nat) (D : Nat → Int) (g : zHp), i + f = 9 → i ≤ 8 → xTs 28 31 h0 B L g → g 2 3 = (q : Int) → q ≤ L → q0 ≤ q → xCf c h g → g 29 = h 29 → ptI D c i (g 31) → D (241 + c) = 1 → (∀ j : Nat, ¬ inC c j → D j = D0 j) → zRW mX7_readPoints 3 (0, 0) 2 [zA 28, zA 2, zI c, zI i] [] 143 g (zqi (fun v h' => xC h0 h B L q0 c D0 (ptF B L c W ht f i q D) v h')) := by
  intro f
  induction f with
  | zero => intro i q D g hf hi8; omega
  | succ f ih =>
    intro i q D g hf hi8 S e3 hq hq0 C e9 hP hk1 hD
    have kb := tk_b (B := B) hq
    refine z_il3 eX7_readPoints_2 ?_
    refine z_ki eX7_readPoints_3 ?_
    refine z_cgt eX7_readPoints_5 rfl (fun c5 => ?_) (fun c5 => ?_)
    · omega
    · refine z_al1 eX7_readPoints_8 ?_
      refine zc_vv0 eX7_readPoints_9 lX7_31 tX9_advance zs2 (by decide) (Nat.le_of_ble_eq_true rfl) (x_adv g B L S.2.1 q hq e3) ?_
      rintro g1 ⟨F1, T1⟩
      have S1 := S.fr F1
      have C1 := C.fr F1
      refine z_al1 eX7_readPoints_12 ?_
      refine zc_vi0 eX7_readPoints_13 lX7_84 tX9_atSign zs2 (by decide) (Nat.le_of_ble_eq_true rfl) (x_atSign _ B L q T1) ?_
      rintro _ _ ⟨rfl, rfl⟩ -
      refine z_ieq eX7_readPoints_16 rfl (fun c16 => ?_) (fun c16 => ?_)
      · have z16 := iteF c16
        refine z_al1 eX7_readPoints_32 ?_
        refine z_ki eX7_readPoints_33 ?_
        refine z_ki eX7_readPoints_34 ?_
        refine zc_vi2 eX7_readPoints_36 lX7_87 tX9_isNumber zs2 (by decide) (Nat.le_of_ble_eq_true rfl) (x_isNumber _ B L q T1 _ _) ?_
        rintro v1 g2 ⟨p1, p2⟩ -
        refine z_ine eX7_readPoints_39 rfl (fun c39 => ?_) (fun c39 => ?_)
        · have z9 : nuK B L q 0 99 = 0 := by
            by_cases z : nuK B L q 0 99 = 0
            · exact z
            · exact absurd (p2 z).1.symm c39
          obtain ⟨-, rfl⟩ := p1 z9
          have k2 := nuK_b.2.1 z9
          refine z_il3 eX7_readPoints_44 ?_
          refine z_ki eX7_readPoints_45 ?_
          refine z_clt eX7_readPoints_47 rfl (fun c47 => ?_) (fun c47 => ?_)
          · refine z_al0 eX7_readPoints_57 ?_
            refine z_ga eX7_readPoints_58 fX7_22 zs28 (t := 31) rfl ?_
            refine z_il2 eX7_readPoints_61 ?_
            refine z_ki eX7_readPoints_62 ?_
            refine z_imulN eX7_readPoints_64 (by omega) (by omega) ?_
            refine z_il3 eX7_readPoints_65 ?_
            refine z_iaddN eX7_readPoints_66 (by omega) (by omega) ?_
            refine z_al1 eX7_readPoints_67 ?_
            refine z_gi eX7_readPoints_68 fX7_78 zs2 ?_
            rw [T1.2.2.2.1 k2.1]
            refine zs_iN eX7_readPoints_71 zs31 (j := 8 * c + i) (by omega) (by omega) ?_
            refine z_incN3 eX7_readPoints_72 zn0 (by omega) (by omega) ?_
            refine z_goto eX7_readPoints_75 rfl ?_
            rw [ptF_g z9 (by omega)]
            refine ih (i + 1) (tkE B L q) _ _ (by omega) (by omega) (S1.up (c := 31) (by decide) (by decide) _ _) (by rw [zup_off (by decide)]; exact T1.2.2.2.2 (by omega)) kb.2.2.1 (by omega) (C1.up (Or.inr (Or.inr ⟨rfl, by omega, by omega⟩)) _) (by rw [zup_off (by decide), F1.1 29 (by decide)]; exact e9) (fun k hk => ?_) (by rw [up_ne (by omega)]; exact hk1) (fun j hj => by rw [up_ne (by unfold inC at hj; omega)]; exact hD j hj)
            by_cases z : k = i
            · rw [z, zup_at, up_at]
            · rw [zup_ne (by omega), up_ne (by omega), F1.1 31 (by decide)]; exact hP k (by omega)
          · refine z_al1 eX7_readPoints_50 ?_
            refine z_ki eX7_readPoints_51 ?_
            refine zc_vi1 eX7_readPoints_53 lX7_44 tX9_refuse zs2 (by decide) (Nat.le_of_ble_eq_true rfl) (x_ref T1 _) ?_
            rintro _ _ ⟨rfl, rfl⟩ -
            refine ze_z eX7_readPoints_56 rfl (by first | exact Or.inl rfl | exact Or.inr rfl) ?_
            rw [ptF_6 z9 (by omega)]
            have ef := fK_1 (k := tkK B L q) (n := 6) (by omega)
            rw [ef]
            exact ⟨rfl, S1.bad _ _⟩
        · have z9 : ¬ nuK B L q 0 99 = 0 := fun z => by have := (p1 z).1; omega
          obtain ⟨-, rfl⟩ := p2 z9
          refine z_ki eX7_readPoints_42 ?_
          refine ze_z eX7_readPoints_43 rfl (by first | exact Or.inl rfl | exact Or.inr rfl) ?_
          rw [ptF_n (by omega) z9]
          exact ⟨rfl, S1.bad _ _⟩
      · have z16 := iteT c16
        refine z_il3 eX7_readPoints_19 ?_
        refine z_ile eX7_readPoints_20 rfl (fun c20 => ?_) (fun c20 => ?_)
        · refine z_al1 eX7_readPoints_32 ?_
          refine z_ki eX7_readPoints_33 ?_
          refine z_ki eX7_readPoints_34 ?_
          refine zc_vi2 eX7_readPoints_36 lX7_87 tX9_isNumber zs2 (by decide) (Nat.le_of_ble_eq_true rfl) (x_isNumber _ B L q T1 _ _) ?_
          rintro v1 g2 ⟨p1, p2⟩ -
          refine z_ine eX7_readPoints_39 rfl (fun c39 => ?_) (fun c39 => ?_)
          · have z9 : nuK B L q 0 99 = 0 := by
              by_cases z : nuK B L q 0 99 = 0
              · exact z
              · exact absurd (p2 z).1.symm c39
            obtain ⟨-, rfl⟩ := p1 z9
            have k2 := nuK_b.2.1 z9
            refine z_il3 eX7_readPoints_44 ?_
            refine z_ki eX7_readPoints_45 ?_
            refine z_clt eX7_readPoints_47 rfl (fun c47 => ?_) (fun c47 => ?_)
            · refine z_al0 eX7_readPoints_57 ?_
              refine z_ga eX7_readPoints_58 fX7_22 zs28 (t := 31) rfl ?_
              refine z_il2 eX7_readPoints_61 ?_
              refine z_ki eX7_readPoints_62 ?_
              refine z_imulN eX7_readPoints_64 (by omega) (by omega) ?_
              refine z_il3 eX7_readPoints_65 ?_
              refine z_iaddN eX7_readPoints_66 (by omega) (by omega) ?_
              refine z_al1 eX7_readPoints_67 ?_
              refine z_gi eX7_readPoints_68 fX7_78 zs2 ?_
              rw [T1.2.2.2.1 k2.1]
              refine zs_iN eX7_readPoints_71 zs31 (j := 8 * c + i) (by omega) (by omega) ?_
              refine z_incN3 eX7_readPoints_72 zn0 (by omega) (by omega) ?_
              refine z_goto eX7_readPoints_75 rfl ?_
              rw [ptF_g z9 (by omega)]
              refine ih (i + 1) (tkE B L q) _ _ (by omega) (by omega) (S1.up (c := 31) (by decide) (by decide) _ _) (by rw [zup_off (by decide)]; exact T1.2.2.2.2 (by omega)) kb.2.2.1 (by omega) (C1.up (Or.inr (Or.inr ⟨rfl, by omega, by omega⟩)) _) (by rw [zup_off (by decide), F1.1 29 (by decide)]; exact e9) (fun k hk => ?_) (by rw [up_ne (by omega)]; exact hk1) (fun j hj => by rw [up_ne (by unfold inC at hj; omega)]; exact hD j hj)
              by_cases z : k = i
              · rw [z, zup_at, up_at]
              · rw [zup_ne (by omega), up_ne (by omega), F1.1 31 (by decide)]; exact hP k (by omega)
            · refine z_al1 eX7_readPoints_50 ?_
              refine z_ki eX7_readPoints_51 ?_
              refine zc_vi1 eX7_readPoints_53 lX7_44 tX9_refuse zs2 (by decide) (Nat.le_of_ble_eq_true rfl) (x_ref T1 _) ?_
              rintro _ _ ⟨rfl, rfl⟩ -
              refine ze_z eX7_readPoints_56 rfl (by first | exact Or.inl rfl | exact Or.inr rfl) ?_
              rw [ptF_6 z9 (by omega)]
              have ef := fK_1 (k := tkK B L q) (n := 6) (by omega)
              rw [ef]
              exact ⟨rfl, S1.bad _ _⟩
          · have z9 : ¬ nuK B L q 0 99 = 0 := fun z => by have := (p1 z).1; omega
            obtain ⟨-, rfl⟩ := p2 z9
            refine z_ki eX7_readPoints_42 ?_
            refine ze_z eX7_readPoints_43 rfl (by first | exact Or.inl rfl | exact Or.inr rfl) ?_
            rw [ptF_n (by omega) z9]
            exact ⟨rfl, S1.bad _ _⟩
        · refine z_al0 eX7_readPoints_23 ?_
          refine z_ga eX7_readPoints_24 fX7_19 zs28 (t := 30) rfl ?_
          refine z_il2 eX7_readPoints_27 ?_
          refine z_il3 eX7_readPoints_28 ?_
          refine zs_iN eX7_readPoints_29 zs30 (j := c) (by omega) (by omega) ?_
          refine z_ki eX7_readPoints_30 ?_
          refine ze_z eX7_readPoints_31 rfl (by first | exact Or.inl rfl | exact Or.inr rfl) ?_
          rw [ptF_e ⟨z16, by omega⟩]
          refine ⟨rfl, ?_, kb.2.2.1, ?_, S1.up (c := 30) (by decide) (by decide) _ _, C1.up (Or.inr (Or.inl ⟨rfl, rfl⟩)) _, clR_1 hi8 ?_ ?_ ?_ ?_ ?_, fun j hj => ?_, ?_⟩
          · show q0 < tkE B L q
            have := kb.2.2.2.1 (by omega)
            omega
          · show zup g1 30 c (i : Int) 2 3 = (tkE B L q : Int)
            rw [zup_off (by decide)]; exact T1.2.2.2.2 (by omega)
          · show up D (249 + c) (i : Int) (241 + c) = 1
            rw [up_ne (by omega)]; exact hk1
          · rw [zup_off (by decide), F1.1 29 (by decide), e9]; exact h29
          · rw [zup_at]
          · show up D (249 + c) (i : Int) (249 + c) = (i : Int)
            rw [up_at]
          · intro k hk
            show zup g1 30 c (i : Int) 31 (8 * c + k) = up D (249 + c) (i : Int) (253 + 8 * c + k)
            rw [zup_off (by decide), F1.1 31 (by decide), up_ne (by omega)]; exact hP k hk
          · show up D (249 + c) (i : Int) j = D0 j
            rw [up_ne (by unfold inC at hj; omega)]; exact hD j hj
          · show 0 ≤ up D (249 + c) (i : Int) (249 + c) ∧ up D (249 + c) (i : Int) (249 + c) ≤ 8
            rw [up_at]; omega
theorem x_pts2 (h0 h : zHp) (B : Nat → Int) (L q0 c : Nat) (D0 W : Nat → Int) (ht : Int) (hc : c < 4) (hk : D0 (241 + c) = 1) (h29 : h 29 c = 0) (q : Nat) (S : xTs 28 31 h0 B L h) (e3 : h 2 3 = (q : Int)) (hq : q ≤ L) (hq0 : q0 ≤ q) : zCi mX7_readPoints 3 [zA 28, zA 2, zI c] h (fun v h' => xC h0 h B L q0 c D0 (ptF B L c W ht 9 0 q D0) v h') := by
  refine z_enter [zA 28, zA 2, zI c, zU] (by decide +kernel) (Nat.le_of_ble_eq_true rfl) rfl (fun hra hrg => ?_)
  refine z_ki eX7_readPoints_0 ?_
  refine z_is3 eX7_readPoints_1 zn0 ?_
  exact x_pt_l h0 h B L q0 c D0 W ht hc hk h29 9 0 q D0 h rfl (by omega) S e3 hq hq0 xCf.rf rfl (fun k hk => by omega) hk (fun j _ => rfl)
theorem xC_sg {h0 h g f : zHp} {B : Nat → Int} {L q q0 c : Nat} {D0 D W : Nat → Int} {ht : Int} {v : Int} (hq : q ≤ L) (hq0 : q0 ≤ q) (S : xTs 28 31 h0 B L g) (T : xTk B L q g) (C : xCf c h g) (K : clR g 28 D c) (hD : ∀ j : Nat, ¬ inC c j → D j = D0 j) (hb : 0 ≤ D (249 + c) ∧ D (249 + c) ≤ 8) (h1 : sgK B L q = 0 → (1 : Int) = v ∧ g = f) (h2 : ¬ sgK B L q = 0 → (0 : Int) = v ∧ xBad g (sgK B L q) (tkA B L q) = f) : xC h0 h B L q0 c D0 (sgF B L q D W ht) v f := by
  have kb := tk_b (B := B) hq
  unfold sgF
  by_cases z : sgK B L q = 0
  · rw [if_pos z]
    obtain ⟨rfl, rfl⟩ := h1 z
    have k3 := sgK_b.2.1 z
    exact ⟨rfl, by show q0 < tkE B L q; have := kb.2.2.2.1 (by omega); omega, kb.2.2.1, T.2.2.2.2 (by omega), S, C, K, hD, hb⟩
  · rw [if_neg z]
    obtain ⟨rfl, rfl⟩ := h2 z
    exact ⟨rfl, S.bad _ _⟩
theorem clR.fr {g f : zHp} {D : Nat → Int} {c : Nat} (K : clR g 28 D c) (F : xFr g f) : clR f 28 D c := by
  unfold clR at K ⊢
  show (D (241 + c) = 2 → f 29 c = 1) ∧ (D (241 + c) = 3 → f 29 c = 2) ∧ (D (241 + c) = 5 → f 29 c = 3 ∧ f 30 c = D (245 + c)) ∧ ((D (241 + c) = 0 ∨ D (241 + c) = 1 ∨ D (241 + c) = 4) → f 29 c = 0 ∧ ∃ mn : Nat, mn ≤ 8 ∧ f 30 c = (mn : Int) ∧ (∀ i : Nat, i < mn → f 31 (8 * c + i) = eachP D c i) ∧ ∀ q : Int, (mn : Int) ≤ q → eachP D c q = 0)
  rw [F.1 29 (by decide), F.1 30 (by decide), F.1 31 (by decide)]
  exact K
theorem xCf_tr {c : Nat} {h g f : zHp} (H : xCf c h g) (G : xCf c g f) : xCf c h f := ⟨fun x x1 x2 x3 x4 => (G.1 x x1 x2 x3 x4).trans (H.1 x x1 x2 x3 x4), fun i hi => ⟨(G.2.1 i hi).1.trans (H.2.1 i hi).1, (G.2.1 i hi).2.trans (H.2.1 i hi).2⟩, fun j hj => (G.2.2 j hj).trans (H.2.2 j hj)⟩
def clF0 (B : Nat → Int) (L c q : Nat) (D W : Nat → Int) (ht : Int) : Rh := c1F B L c W ht (kdF B L q) (tkE B L q) (up (up D (241 + c) (kdF B L q)) (249 + c) 0)
theorem xC_eD {h0 h g : zHp} {B : Nat → Int} {L q0 c : Nat} {D D2 : Nat → Int} {R : Rh} {v : Int} (H : xC h0 h B L q0 c D2 R v g) (e : ∀ j : Nat, ¬ inC c j → D2 j = D j) : xC h0 h B L q0 c D R v g := by
  cases R with
  | inl e => exact H
  | inr s => exact ⟨H.1, H.2.1, H.2.2.1, H.2.2.2.1, H.2.2.2.2.1, H.2.2.2.2.2.1, H.2.2.2.2.2.2.1, fun j hj => (H.2.2.2.2.2.2.2.1 j hj).trans (e j hj), H.2.2.2.2.2.2.2.2⟩
theorem xC_eh {h0 h h' g : zHp} {B : Nat → Int} {L q0 c : Nat} {D : Nat → Int} {R : Rh} {v : Int} (H : xC h0 h' B L q0 c D R v g) (e : xCf c h h') : xC h0 h B L q0 c D R v g := by
  cases R with
  | inl e => exact H
  | inr s => exact ⟨H.1, H.2.1, H.2.2.1, H.2.2.2.1, H.2.2.2.2.1, xCf_tr e H.2.2.2.2.2.1, H.2.2.2.2.2.2⟩
theorem x_readClause (h0 h : zHp) (B : Nat → Int) (L q c : Nat) (D W : Nat → Int) (ht : Int) (hc : c < 4) (S : xTs 28 31 h0 B L h) (T : xTk B L q h) (hq : q ≤ L) (hkd : ¬ kdF B L q = -1) : zCi mX7_readClause 5 [zA 28, zA 2, zI c] h (fun v h' => xC h0 h B L q c D (clF0 B L c q D W ht) v h') := by
  refine z_enter [zA 28, zA 2, zI c] (by decide +kernel) (Nat.le_of_ble_eq_true rfl) rfl (fun hra hrg => ?_)
  have kb := tk_b (B := B) hq
  have k1 := kdF_b.2.2 hkd
  refine z_al0 eX7_readClause_0 ?_
  refine z_ga eX7_readClause_1 fX7_15 zs28 (t := 29) rfl ?_
  refine z_il2 eX7_readClause_4 ?_
  refine z_ki eX7_readClause_5 ?_
  refine zs_iN eX7_readClause_6 zs29 (j := c) (by omega) (by omega) ?_
  have S2 := S.up (c := 29) (by decide) (by decide) c 0
  have T2 := T.up (c := 29) (by decide) c 0
  have C2 := (xCf.rf (c := c) (h := h)).up (x := 29) (i := c) (Or.inl ⟨rfl, rfl⟩) 0
  have e32 : zup h 29 c 0 2 3 = ((tkE B L q : Nat) : Int) := by rw [zup_off (by decide)]; exact T.2.2.2.2 (by omega)
  refine z_al1 eX7_readClause_7 ?_
  refine z_ldcS eX7_readClause_8 sX7_58 ?_
  refine zc_vi1 eX7_readClause_10 lX7_54 tX9_at zs2 (by decide) (Nat.le_of_ble_eq_true rfl) (x_at _ B L S2.2.1 q hq T2 8 (by decide)) ?_
  rintro _ _ ⟨rfl, rfl⟩ -
  refine z_ieq eX7_readClause_13 rfl (fun c13 => ?_) (fun c13 => ?_)
  · have z13 := iteF c13
    refine z_al1 eX7_readClause_23 ?_
    refine z_ldcS eX7_readClause_24 sX7_52 ?_
    refine zc_vi1 eX7_readClause_26 lX7_54 tX9_at zs2 (by decide) (Nat.le_of_ble_eq_true rfl) (x_at _ B L S2.2.1 q hq T2 7 (by decide)) ?_
    rintro _ _ ⟨rfl, rfl⟩ -
    refine z_ieq eX7_readClause_29 rfl (fun c29 => ?_) (fun c29 => ?_)
    · have z29 := iteF c29
      refine z_al1 eX7_readClause_41 ?_
      refine z_ldcS eX7_readClause_42 sX7_59 ?_
      refine zc_vi1 eX7_readClause_44 lX7_54 tX9_at zs2 (by decide) (Nat.le_of_ble_eq_true rfl) (x_at _ B L S2.2.1 q hq T2 9 (by decide)) ?_
      rintro _ _ ⟨rfl, rfl⟩ -
      refine z_ieq eX7_readClause_47 rfl (fun c47 => ?_) (fun c47 => ?_)
      · have z47 := iteF c47
        refine z_al1 eX7_readClause_60 ?_
        refine z_ldcS eX7_readClause_61 sX7_61 ?_
        refine zc_vi1 eX7_readClause_63 lX7_54 tX9_at zs2 (by decide) (Nat.le_of_ble_eq_true rfl) (x_at _ B L S2.2.1 q hq T2 10 (by decide)) ?_
        rintro _ _ ⟨rfl, rfl⟩ -
        refine z_ieq eX7_readClause_66 rfl (fun c66 => ?_) (fun c66 => ?_)
        · have z66 := iteF c66
          refine z_al1 eX7_readClause_79 ?_
          refine z_ldcS eX7_readClause_80 sX7_63 ?_
          refine zc_vi1 eX7_readClause_82 lX7_54 tX9_at zs2 (by decide) (Nat.le_of_ble_eq_true rfl) (x_at _ B L S2.2.1 q hq T2 11 (by decide)) ?_
          rintro _ _ ⟨rfl, rfl⟩ -
          refine z_ieq eX7_readClause_85 rfl (fun c85 => ?_) (fun c85 => ?_)
          · have z85 := iteF c85
            refine z_al0 eX7_readClause_112 ?_
            refine z_ga eX7_readClause_113 fX7_15 zs28 (t := 29) rfl ?_
            refine z_il2 eX7_readClause_116 ?_
            refine z_ki eX7_readClause_117 ?_
            refine zs_iN eX7_readClause_118 zs29 (j := c) (by omega) (by omega) ?_
            have S4 := S2.up (c := 29) (by decide) (by decide) c 3
            have e34 : zup (zup h 29 c 0) 29 c 3 2 3 = ((tkE B L q : Nat) : Int) := by rw [zup_off (by decide)]; exact e32
            refine z_al1 eX7_readClause_119 ?_
            refine z_ki eX7_readClause_120 ?_
            refine z_ki eX7_readClause_121 ?_
            refine zc_vi2 eX7_readClause_123 lX7_74 tX9_expectNumber zs2 (by decide) (Nat.le_of_ble_eq_true rfl) (x_expNumber _ B L S4.2.1 _ kb.2.2.1 e34 _ _) ?_
            rintro v1 g4 ⟨g5, F5, T5, p1, p2⟩ -
            refine z_ine eX7_readClause_126 rfl (fun c126 => ?_) (fun c126 => ?_)
            · have z9 : nuK B L (tkE B L q) 0 99 = 0 := by
                by_cases z : nuK B L (tkE B L q) 0 99 = 0
                · exact z
                · exact absurd (p2 z).1.symm c126
              obtain ⟨-, rfl⟩ := p1 z9
              have k2 := nuK_b.2.1 z9
              have kb5 := tk_b (B := B) kb.2.2.1
              clear p1 p2
              refine z_al0 eX7_readClause_131 ?_
              refine z_ga eX7_readClause_132 fX7_19 zs28 (t := 30) rfl ?_
              refine z_il2 eX7_readClause_135 ?_
              refine z_al1 eX7_readClause_136 ?_
              refine z_gi eX7_readClause_137 fX7_78 zs2 ?_
              rw [T5.2.2.2.1 k2.1]
              refine zs_iN eX7_readClause_140 zs30 (j := c) (by omega) (by omega) ?_
              have S3 := (S4.fr F5).up (c := 30) (by decide) (by decide) c (tkV B L (tkE B L q))
              have C3 := ((C2.up (x := 29) (i := c) (Or.inl ⟨rfl, rfl⟩) 3).fr F5).up (x := 30) (i := c) (Or.inr (Or.inl ⟨rfl, rfl⟩)) (tkV B L (tkE B L q))
              have e33 : zup g5 30 c (tkV B L (tkE B L q)) 2 3 = ((tkE B L (tkE B L q) : Nat) : Int) := by rw [zup_off (by decide)]; exact T5.2.2.2.2 (by omega)
              have K3 : clR (zup g5 30 c (tkV B L (tkE B L q))) 28 (up (up (up D (241 + c) 5) (249 + c) 0) (245 + c) (tkV B L (tkE B L q))) c := by
                have ed : (up (up (up D (241 + c) 5) (249 + c) 0) (245 + c) (tkV B L (tkE B L q))) (241 + c) = 5 := by rw [up_ne (by omega), up_ne (by omega), up_at]
                unfold clR
                rw [ed]
                refine ⟨fun z => by omega, fun z => by omega, fun _ => ⟨?_, ?_⟩, fun z => by omega⟩
                · show zup g5 30 c (tkV B L (tkE B L q)) 29 c = 3
                  rw [zup_off (by decide), F5.1 29 (by decide), zup_at]
                · show zup g5 30 c (tkV B L (tkE B L q)) 30 c = _
                  rw [zup_at, up_at]
              have hD3 : ∀ j : Nat, ¬ inC c j → (up (up (up D (241 + c) 5) (249 + c) 0) (245 + c) (tkV B L (tkE B L q))) j = D j := fun j hj => by unfold inC at hj; rw [up_ne (by omega), up_ne (by omega), up_ne (by omega)]
              have hq3 : tkE B L (tkE B L q) ≤ L := kb5.2.2.1
              have hb3 : 0 ≤ (up (up (up D (241 + c) 5) (249 + c) 0) (245 + c) (tkV B L (tkE B L q))) (249 + c) ∧ (up (up (up D (241 + c) 5) (249 + c) 0) (245 + c) (tkV B L (tkE B L q))) (249 + c) ≤ 8 := by rw [up_ne (by omega), up_at]; omega
              refine z_al1 eX7_readClause_141 ?_
              refine zc_vi0 eX7_readClause_142 lX7_81 tX9_expectSign zs2 (by decide) (Nat.le_of_ble_eq_true rfl) (x_expSign _ B L S3.2.1 _ hq3 e33) ?_
              rintro v2 g8 ⟨g9, F9, T9, p1, p2⟩ -
              have v01 : v2 = 0 ∨ v2 = 1 := by
                by_cases z : sgK B L (tkE B L (tkE B L q)) = 0
                · exact Or.inr (p1 z).1.symm
                · exact Or.inl (p2 z).1.symm
              refine ze_z eX7_readClause_145 rfl (by exact v01) ?_
              have ek : kdF B L q = 5 := by
                unfold kdF at hkd ⊢
                rw [if_neg z29, if_neg z13, if_neg z47, if_neg z66, if_neg z85] at hkd ⊢
                by_cases z : isK B L q 12
                · rw [if_pos z]
                · rw [if_neg z] at hkd; exact absurd rfl hkd
              unfold clF0
              rw [ek]
              have e1 : c1F B L c W ht 5 (tkE B L q) (up (up D (241 + c) 5) (249 + c) 0) = sgF B L (tkE B L (tkE B L q)) (up (up (up D (241 + c) 5) (249 + c) 0) (245 + c) (tkV B L (tkE B L q))) W ht := by
                show (if nuK B L (tkE B L q) 0 99 = 0 then _ else _) = _
                rw [if_pos z9]
                rfl
              rw [e1]
              exact xC_sg kb5.2.2.1 (by omega) (S3.fr F9) T9 (C3.fr F9) (K3.fr F9) hD3 hb3 p1 p2
            · have z9 : ¬ nuK B L (tkE B L q) 0 99 = 0 := fun z => by have := (p1 z).1; omega
              obtain ⟨-, rfl⟩ := p2 z9
              refine z_ki eX7_readClause_129 ?_
              refine ze_z eX7_readClause_130 rfl (by first | exact Or.inl rfl | exact Or.inr rfl) ?_
              have ek : kdF B L q = 5 := by
                unfold kdF at hkd ⊢
                rw [if_neg z29, if_neg z13, if_neg z47, if_neg z66, if_neg z85] at hkd ⊢
                by_cases z : isK B L q 12
                · rw [if_pos z]
                · rw [if_neg z] at hkd; exact absurd rfl hkd
              unfold clF0
              rw [ek]
              have e1 : c1F B L c W ht 5 (tkE B L q) (up (up D (241 + c) 5) (249 + c) 0) = .inl (nuK B L (tkE B L q) 0 99, tkA B L (tkE B L q)) := by
                show (if nuK B L (tkE B L q) 0 99 = 0 then _ else _) = _
                rw [if_neg z9]
              rw [e1]
              exact ⟨rfl, (S4.fr F5).bad _ _⟩
          · have z85 := iteT c85
            refine z_al1 eX7_readClause_88 ?_
            refine z_ki eX7_readClause_89 ?_
            refine z_ki eX7_readClause_90 ?_
            refine zc_vi2 eX7_readClause_92 lX7_74 tX9_expectNumber zs2 (by decide) (Nat.le_of_ble_eq_true rfl) (x_expNumber _ B L S2.2.1 _ kb.2.2.1 e32 _ _) ?_
            rintro v1 g4 ⟨g5, F5, T5, p1, p2⟩ -
            refine z_ine eX7_readClause_95 rfl (fun c95 => ?_) (fun c95 => ?_)
            · have z9 : nuK B L (tkE B L q) 1 8 = 0 := by
                by_cases z : nuK B L (tkE B L q) 1 8 = 0
                · exact z
                · exact absurd (p2 z).1.symm c95
              obtain ⟨-, rfl⟩ := p1 z9
              have k2 := nuK_b.2.1 z9
              have kb5 := tk_b (B := B) kb.2.2.1
              obtain ⟨vn, evn⟩ : ∃ vn : Nat, tkV B L (tkE B L q) = (vn : Int) := ⟨(tkV B L (tkE B L q)).toNat, by omega⟩
              clear p1 p2
              refine z_al0 eX7_readClause_100 ?_
              refine z_il2 eX7_readClause_101 ?_
              refine z_al1 eX7_readClause_102 ?_
              refine z_gi eX7_readClause_103 fX7_78 zs2 ?_
              rw [T5.2.2.2.1 k2.1, evn]
              refine zc_vv2 eX7_readClause_106 lX7_70 tX7_putOnes zs28 (by decide) (Nat.le_of_ble_eq_true rfl) (x_ones _ c vn hc (by omega)) ?_
              rintro g3 O
              refine z_goto eX7_readClause_109 rfl ?_
              have S5 := S2.fr F5
              have S3 : xTs 28 31 h0 B L g3 := ⟨⟨fun x x1 x2 => by rw [O.1.1 x x1 (by omega) (by omega) (by omega)]; exact S5.1.1 x x1 x2, by rw [O.2.2.2.2]; exact S5.1.2⟩, ⟨by rw [O.2.2.2.2]; exact S5.2.1.1, S5.2.1.2.1, fun i hi => by rw [O.1.1 3 (by decide) (by decide) (by decide) (by decide)]; exact S5.2.1.2.2 i hi⟩, by rw [O.2.2.2.2]; exact S5.2.2.1, by rw [O.2.2.2.2]; exact S5.2.2.2⟩
              have C3 : xCf c h g3 := xCf_tr (C2.fr F5) O.1
              have e33 : g3 2 3 = ((tkE B L (tkE B L q) : Nat) : Int) := by rw [O.2.2.2.2]; exact T5.2.2.2.2 (by omega)
              have K3 : clR g3 28 (up (up (up D (241 + c) 4) (249 + c) 0) (245 + c) (tkV B L (tkE B L q))) c := clR_o (n := vn) (by omega) (Or.inr ⟨by rw [up_ne (by omega), up_ne (by omega), up_at], by rw [up_at]; exact evn⟩) (by rw [O.2.1, F5.1 29 (by decide), zup_at]) O.2.2.1 (fun i hi => O.2.2.2.1 i hi)
              have hD3 : ∀ j : Nat, ¬ inC c j → (up (up (up D (241 + c) 4) (249 + c) 0) (245 + c) (tkV B L (tkE B L q))) j = D j := fun j hj => by unfold inC at hj; rw [up_ne (by omega), up_ne (by omega), up_ne (by omega)]
              have hq3 : tkE B L (tkE B L q) ≤ L := kb5.2.2.1
              have hb3 : 0 ≤ (up (up (up D (241 + c) 4) (249 + c) 0) (245 + c) (tkV B L (tkE B L q))) (249 + c) ∧ (up (up (up D (241 + c) 4) (249 + c) 0) (245 + c) (tkV B L (tkE B L q))) (249 + c) ≤ 8 := by rw [up_ne (by omega), up_at]; omega
              refine z_al1 eX7_readClause_141 ?_
              refine zc_vi0 eX7_readClause_142 lX7_81 tX9_expectSign zs2 (by decide) (Nat.le_of_ble_eq_true rfl) (x_expSign _ B L S3.2.1 _ hq3 e33) ?_
              rintro v2 g8 ⟨g9, F9, T9, p1, p2⟩ -
              have v01 : v2 = 0 ∨ v2 = 1 := by
                by_cases z : sgK B L (tkE B L (tkE B L q)) = 0
                · exact Or.inr (p1 z).1.symm
                · exact Or.inl (p2 z).1.symm
              refine ze_z eX7_readClause_145 rfl (by exact v01) ?_
              have ek : kdF B L q = 4 := by
                unfold kdF
                have kv := kC_w
                rw [if_neg (fun z => by have := z.2; have := z85.2; omega), if_neg (fun z => by have := z.2; have := z85.2; omega), if_neg (fun z => by have := z.2; have := z85.2; omega), if_neg (fun z => by have := z.2; have := z85.2; omega), if_pos z85]
              unfold clF0
              rw [ek]
              have e1 : c1F B L c W ht 4 (tkE B L q) (up (up D (241 + c) 4) (249 + c) 0) = sgF B L (tkE B L (tkE B L q)) (up (up (up D (241 + c) 4) (249 + c) 0) (245 + c) (tkV B L (tkE B L q))) W ht := by
                show (if nuK B L (tkE B L q) 1 8 = 0 then _ else _) = _
                rw [if_pos z9]
                rfl
              rw [e1]
              exact xC_sg kb5.2.2.1 (by omega) (S3.fr F9) T9 (C3.fr F9) (K3.fr F9) hD3 hb3 p1 p2
            · have z9 : ¬ nuK B L (tkE B L q) 1 8 = 0 := fun z => by have := (p1 z).1; omega
              obtain ⟨-, rfl⟩ := p2 z9
              refine z_ki eX7_readClause_98 ?_
              refine ze_z eX7_readClause_99 rfl (by first | exact Or.inl rfl | exact Or.inr rfl) ?_
              have ek : kdF B L q = 4 := by
                unfold kdF
                have kv := kC_w
                rw [if_neg (fun z => by have := z.2; have := z85.2; omega), if_neg (fun z => by have := z.2; have := z85.2; omega), if_neg (fun z => by have := z.2; have := z85.2; omega), if_neg (fun z => by have := z.2; have := z85.2; omega), if_pos z85]
              unfold clF0
              rw [ek]
              have e1 : c1F B L c W ht 4 (tkE B L q) (up (up D (241 + c) 4) (249 + c) 0) = .inl (nuK B L (tkE B L q) 1 8, tkA B L (tkE B L q)) := by
                show (if nuK B L (tkE B L q) 1 8 = 0 then _ else _) = _
                rw [if_neg z9]
              rw [e1]
              exact ⟨rfl, (S2.fr F5).bad _ _⟩
        · have z66 := iteT c66
          refine z_al0 eX7_readClause_69 ?_
          refine z_ga eX7_readClause_70 fX7_15 zs28 (t := 29) rfl ?_
          refine z_il2 eX7_readClause_73 ?_
          refine z_ki eX7_readClause_74 ?_
          refine zs_iN eX7_readClause_75 zs29 (j := c) (by omega) (by omega) ?_
          refine z_goto eX7_readClause_76 rfl ?_
          have S3 := S2.up (c := 29) (by decide) (by decide) c 2
          have C3 := C2.up (x := 29) (i := c) (Or.inl ⟨rfl, rfl⟩) 2
          have e33 : zup (zup h 29 c 0) 29 c 2 2 3 = ((tkE B L q : Nat) : Int) := by rw [zup_off (by decide)]; exact e32
          have K3 : clR (zup (zup h 29 c 0) 29 c 2) 28 (up (up D (241 + c) 3) (249 + c) 0) c := by
            have ed : (up (up D (241 + c) 3) (249 + c) 0) (241 + c) = 3 := by rw [up_ne (by omega), up_at]
            unfold clR
            rw [ed]
            refine ⟨fun z => ?_, fun z => ?_, fun z => by omega, fun z => by omega⟩ <;> first | (exfalso; omega) | (show zup (zup h 29 c 0) 29 c 2 29 c = 2; rw [zup_at])
          have hD3 : ∀ j : Nat, ¬ inC c j → (up (up D (241 + c) 3) (249 + c) 0) j = D j := fun j hj => by unfold inC at hj; rw [up_ne (by omega), up_ne (by omega)]
          have hq3 : tkE B L q ≤ L := kb.2.2.1
          have hb3 : 0 ≤ (up (up D (241 + c) 3) (249 + c) 0) (249 + c) ∧ (up (up D (241 + c) 3) (249 + c) 0) (249 + c) ≤ 8 := by rw [up_at]; omega
          refine z_al1 eX7_readClause_141 ?_
          refine zc_vi0 eX7_readClause_142 lX7_81 tX9_expectSign zs2 (by decide) (Nat.le_of_ble_eq_true rfl) (x_expSign _ B L S3.2.1 _ hq3 e33) ?_
          rintro v2 g8 ⟨g9, F9, T9, p1, p2⟩ -
          have v01 : v2 = 0 ∨ v2 = 1 := by
            by_cases z : sgK B L (tkE B L q) = 0
            · exact Or.inr (p1 z).1.symm
            · exact Or.inl (p2 z).1.symm
          refine ze_z eX7_readClause_145 rfl (by exact v01) ?_
          have ek : kdF B L q = 3 := by
            unfold kdF
            have kv := kC_w
            rw [if_neg (fun z => by have := z.2; have := z66.2; omega), if_neg (fun z => by have := z.2; have := z66.2; omega), if_neg (fun z => by have := z.2; have := z66.2; omega), if_pos z66]
          unfold clF0
          rw [ek]
          have e1 : c1F B L c W ht 3 (tkE B L q) (up (up D (241 + c) 3) (249 + c) 0) = sgF B L (tkE B L q) (up (up D (241 + c) 3) (249 + c) 0) W ht := rfl
          rw [e1]
          exact xC_sg kb.2.2.1 (by omega) (S3.fr F9) T9 (C3.fr F9) (K3.fr F9) hD3 hb3 p1 p2
      · have z47 := iteT c47
        refine z_al0 eX7_readClause_50 ?_
        refine z_ga eX7_readClause_51 fX7_15 zs28 (t := 29) rfl ?_
        refine z_il2 eX7_readClause_54 ?_
        refine z_ki eX7_readClause_55 ?_
        refine zs_iN eX7_readClause_56 zs29 (j := c) (by omega) (by omega) ?_
        refine z_goto eX7_readClause_57 rfl ?_
        have S3 := S2.up (c := 29) (by decide) (by decide) c 1
        have C3 := C2.up (x := 29) (i := c) (Or.inl ⟨rfl, rfl⟩) 1
        have e33 : zup (zup h 29 c 0) 29 c 1 2 3 = ((tkE B L q : Nat) : Int) := by rw [zup_off (by decide)]; exact e32
        have K3 : clR (zup (zup h 29 c 0) 29 c 1) 28 (up (up D (241 + c) 2) (249 + c) 0) c := by
          have ed : (up (up D (241 + c) 2) (249 + c) 0) (241 + c) = 2 := by rw [up_ne (by omega), up_at]
          unfold clR
          rw [ed]
          refine ⟨fun z => ?_, fun z => ?_, fun z => by omega, fun z => by omega⟩ <;> first | (exfalso; omega) | (show zup (zup h 29 c 0) 29 c 1 29 c = 1; rw [zup_at])
        have hD3 : ∀ j : Nat, ¬ inC c j → (up (up D (241 + c) 2) (249 + c) 0) j = D j := fun j hj => by unfold inC at hj; rw [up_ne (by omega), up_ne (by omega)]
        have hq3 : tkE B L q ≤ L := kb.2.2.1
        have hb3 : 0 ≤ (up (up D (241 + c) 2) (249 + c) 0) (249 + c) ∧ (up (up D (241 + c) 2) (249 + c) 0) (249 + c) ≤ 8 := by rw [up_at]; omega
        refine z_al1 eX7_readClause_141 ?_
        refine zc_vi0 eX7_readClause_142 lX7_81 tX9_expectSign zs2 (by decide) (Nat.le_of_ble_eq_true rfl) (x_expSign _ B L S3.2.1 _ hq3 e33) ?_
        rintro v2 g8 ⟨g9, F9, T9, p1, p2⟩ -
        have v01 : v2 = 0 ∨ v2 = 1 := by
          by_cases z : sgK B L (tkE B L q) = 0
          · exact Or.inr (p1 z).1.symm
          · exact Or.inl (p2 z).1.symm
        refine ze_z eX7_readClause_145 rfl (by exact v01) ?_
        have ek : kdF B L q = 2 := by
          unfold kdF
          have kv := kC_w
          rw [if_neg (fun z => by have := z.2; have := z47.2; omega), if_neg (fun z => by have := z.2; have := z47.2; omega), if_pos z47]
        unfold clF0
        rw [ek]
        have e1 : c1F B L c W ht 2 (tkE B L q) (up (up D (241 + c) 2) (249 + c) 0) = sgF B L (tkE B L q) (up (up D (241 + c) 2) (249 + c) 0) W ht := rfl
        rw [e1]
        exact xC_sg kb.2.2.1 (by omega) (S3.fr F9) T9 (C3.fr F9) (K3.fr F9) hD3 hb3 p1 p2
    · have z29 := iteT c29
      refine z_al0 eX7_readClause_32 ?_
      refine z_il2 eX7_readClause_33 ?_
      refine z_ki eX7_readClause_34 ?_
      rw [show (1 : Int) = ((1 : Nat) : Int) from rfl]
      refine zc_vv2 eX7_readClause_35 lX7_70 tX7_putOnes zs28 (by decide) (Nat.le_of_ble_eq_true rfl) (x_ones _ c 1 hc (by omega)) ?_
      rintro g3 O
      refine z_goto eX7_readClause_38 rfl ?_
      have S3 : xTs 28 31 h0 B L g3 := ⟨⟨fun x x1 x2 => by rw [O.1.1 x x1 (by omega) (by omega) (by omega)]; exact S2.1.1 x x1 x2, by rw [O.2.2.2.2]; exact S2.1.2⟩, ⟨by rw [O.2.2.2.2]; exact S2.2.1.1, S2.2.1.2.1, fun i hi => by rw [O.1.1 3 (by decide) (by decide) (by decide) (by decide)]; exact S2.2.1.2.2 i hi⟩, by rw [O.2.2.2.2]; exact S2.2.2.1, by rw [O.2.2.2.2]; exact S2.2.2.2⟩
      have C3 : xCf c h g3 := xCf_tr C2 O.1
      have e33 : g3 2 3 = ((tkE B L q : Nat) : Int) := by rw [O.2.2.2.2]; exact e32
      have K3 : clR g3 28 (up (up D (241 + c) 0) (249 + c) 0) c := clR_o (n := 1) (by omega) (Or.inl ⟨by rw [up_ne (by omega), up_at], rfl⟩) (by rw [O.2.1, zup_at]) (by rw [O.2.2.1]) (fun i hi => O.2.2.2.1 i hi)
      have hD3 : ∀ j : Nat, ¬ inC c j → (up (up D (241 + c) 0) (249 + c) 0) j = D j := fun j hj => by unfold inC at hj; rw [up_ne (by omega), up_ne (by omega)]
      have hq3 : tkE B L q ≤ L := kb.2.2.1
      have hb3 : 0 ≤ (up (up D (241 + c) 0) (249 + c) 0) (249 + c) ∧ (up (up D (241 + c) 0) (249 + c) 0) (249 + c) ≤ 8 := by rw [up_at]; omega
      refine z_al1 eX7_readClause_141 ?_
      refine zc_vi0 eX7_readClause_142 lX7_81 tX9_expectSign zs2 (by decide) (Nat.le_of_ble_eq_true rfl) (x_expSign _ B L S3.2.1 _ hq3 e33) ?_
      rintro v2 g8 ⟨g9, F9, T9, p1, p2⟩ -
      have v01 : v2 = 0 ∨ v2 = 1 := by
        by_cases z : sgK B L (tkE B L q) = 0
        · exact Or.inr (p1 z).1.symm
        · exact Or.inl (p2 z).1.symm
      refine ze_z eX7_readClause_145 rfl (by exact v01) ?_
      have ek : kdF B L q = 0 := by
        unfold kdF
        have kv := kC_w
        rw [if_pos z29]
      unfold clF0
      rw [ek]
      have e1 : c1F B L c W ht 0 (tkE B L q) (up (up D (241 + c) 0) (249 + c) 0) = sgF B L (tkE B L q) (up (up D (241 + c) 0) (249 + c) 0) W ht := rfl
      rw [e1]
      exact xC_sg kb.2.2.1 (by omega) (S3.fr F9) T9 (C3.fr F9) (K3.fr F9) hD3 hb3 p1 p2
  · have z13 := iteT c13
    refine z_al0 eX7_readClause_16 ?_
    refine z_al1 eX7_readClause_17 ?_
    refine z_il2 eX7_readClause_18 ?_
    refine zc_vi2 eX7_readClause_19 lX7_67 tX7_readPoints zs28 (by decide) (Nat.le_of_ble_eq_true rfl) (x_pts2 h0 _ B L q c (up (up D (241 + c) 1) (249 + c) 0) W ht hc (by rw [up_ne (by omega), up_at]) (by rw [zup_at]) _ S2 e32 kb.2.2.1 (by omega)) ?_
    rintro v1 g4 R1 -
    refine ze_z eX7_readClause_22 rfl (by exact xC01 R1) ?_
    have ek : kdF B L q = 1 := by
      unfold kdF
      have kv := kC_w
      rw [if_neg (fun z => by have := z.2; have := z13.2; omega), if_pos z13]
    unfold clF0
    rw [ek]
    have e1 : c1F B L c W ht 1 (tkE B L q) (up (up D (241 + c) 1) (249 + c) 0) = ptF B L c W ht 9 0 (tkE B L q) (up (up D (241 + c) 1) (249 + c) 0) := rfl
    rw [e1]
    exact xC_eh (xC_eD R1 (fun j hj => by unfold inC at hj; rw [up_ne (by omega), up_ne (by omega)])) C2
