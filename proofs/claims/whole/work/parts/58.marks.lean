-- marks (written by wip/tools/specK1.py)
def isH (a : Nat) : Prop := a = 4 ∨ a = 14 ∨ a = 75 ∨ a = 89 ∨ a = 103
def isR (a : Nat) : Prop := a = 24 ∨ a = 28 ∨ a = 85 ∨ a = 99 ∨ a = 113
theorem hlS {a : Nat} (ha : isH a) : zSH[a]? = some (5, 13) := by rcases ha with rfl | rfl | rfl | rfl | rfl <;> rfl
theorem rlS {a : Nat} (ha : isR a) : zSH[a]? = some (7, 4) := by rcases ha with rfl | rfl | rfl | rfl | rfl <;> rfl
theorem hlS1 {a : Nat} (ha : isH a) : zSH[a + 1]? = some (21, 8) := by rcases ha with rfl | rfl | rfl | rfl | rfl <;> rfl
theorem hlR1 {a : Nat} (ha : isH a) : zRTa a 2 = a + 1 := by rcases ha with rfl | rfl | rfl | rfl | rfl <;> rfl
theorem hlS2 {a : Nat} (ha : isH a) : zSH[a + 2]? = some (20, 8) := by rcases ha with rfl | rfl | rfl | rfl | rfl <;> rfl
theorem hlR2 {a : Nat} (ha : isH a) : zRTa a 3 = a + 2 := by rcases ha with rfl | rfl | rfl | rfl | rfl <;> rfl
theorem hlS3 {a : Nat} (ha : isH a) : zSH[a + 3]? = some (20, 8) := by rcases ha with rfl | rfl | rfl | rfl | rfl <;> rfl
theorem hlR3 {a : Nat} (ha : isH a) : zRTa a 4 = a + 3 := by rcases ha with rfl | rfl | rfl | rfl | rfl <;> rfl
theorem hlS4 {a : Nat} (ha : isH a) : zSH[a + 4]? = some (20, 8) := by rcases ha with rfl | rfl | rfl | rfl | rfl <;> rfl
theorem hlR4 {a : Nat} (ha : isH a) : zRTa a 5 = a + 4 := by rcases ha with rfl | rfl | rfl | rfl | rfl <;> rfl
theorem hlS5 {a : Nat} (ha : isH a) : zSH[a + 5]? = some (20, 20) := by rcases ha with rfl | rfl | rfl | rfl | rfl <;> rfl
theorem hlR5 {a : Nat} (ha : isH a) : zRTa a 8 = a + 5 := by rcases ha with rfl | rfl | rfl | rfl | rfl <;> rfl
theorem hlS6 {a : Nat} (ha : isH a) : zSH[a + 6]? = some (20, 20) := by rcases ha with rfl | rfl | rfl | rfl | rfl <;> rfl
theorem hlR6 {a : Nat} (ha : isH a) : zRTa a 9 = a + 6 := by rcases ha with rfl | rfl | rfl | rfl | rfl <;> rfl
theorem hlS7 {a : Nat} (ha : isH a) : zSH[a + 7]? = some (20, 20) := by rcases ha with rfl | rfl | rfl | rfl | rfl <;> rfl
theorem hlR7 {a : Nat} (ha : isH a) : zRTa a 10 = a + 7 := by rcases ha with rfl | rfl | rfl | rfl | rfl <;> rfl
theorem hlS8 {a : Nat} (ha : isH a) : zSH[a + 8]? = some (20, 160) := by rcases ha with rfl | rfl | rfl | rfl | rfl <;> rfl
theorem hlR8 {a : Nat} (ha : isH a) : zRTa a 11 = a + 8 := by rcases ha with rfl | rfl | rfl | rfl | rfl <;> rfl
theorem hlS9 {a : Nat} (ha : isH a) : zSH[a + 9]? = some (20, 160) := by rcases ha with rfl | rfl | rfl | rfl | rfl <;> rfl
theorem hlR9 {a : Nat} (ha : isH a) : zRTa a 12 = a + 9 := by rcases ha with rfl | rfl | rfl | rfl | rfl <;> rfl
theorem rlS1 {a : Nat} (ha : isR a) : zSH[a + 1]? = some (20, 4) := by rcases ha with rfl | rfl | rfl | rfl | rfl <;> rfl
theorem rlR1 {a : Nat} (ha : isR a) : zRTa a 1 = a + 1 := by rcases ha with rfl | rfl | rfl | rfl | rfl <;> rfl
theorem rlS2 {a : Nat} (ha : isR a) : zSH[a + 2]? = some (20, 4) := by rcases ha with rfl | rfl | rfl | rfl | rfl <;> rfl
theorem rlR2 {a : Nat} (ha : isR a) : zRTa a 2 = a + 2 := by rcases ha with rfl | rfl | rfl | rfl | rfl <;> rfl
theorem rlS3 {a : Nat} (ha : isR a) : zSH[a + 3]? = some (20, 32) := by rcases ha with rfl | rfl | rfl | rfl | rfl <;> rfl
theorem rlR3 {a : Nat} (ha : isR a) : zRTa a 3 = a + 3 := by rcases ha with rfl | rfl | rfl | rfl | rfl <;> rfl
def cpH (h : zHp) (a b : Nat) (g : zHp) : Prop := (∀ c : Nat, ¬ (a ≤ c ∧ c ≤ a + 9) → g c = h c) ∧ g a 0 = h b 0 ∧ g a 1 = h b 1 ∧ g a 6 = h b 6 ∧ g a 7 = h b 7 ∧ (∀ i : Nat, i < 8 → g (a + 1) i = h (b + 1) i) ∧ (∀ i : Nat, i < 8 → g (a + 2) i = h (b + 2) i) ∧ (∀ i : Nat, i < 8 → g (a + 3) i = h (b + 3) i) ∧ (∀ i : Nat, i < 8 → g (a + 4) i = h (b + 4) i) ∧ (∀ i : Nat, i < 20 → g (a + 5) i = h (b + 5) i) ∧ (∀ i : Nat, i < 20 → g (a + 6) i = h (b + 6) i) ∧ (∀ i : Nat, i < 20 → g (a + 7) i = h (b + 7) i) ∧ (∀ i : Nat, i < 160 → g (a + 8) i = h (b + 8) i) ∧ (∀ i : Nat, i < 160 → g (a + 9) i = h (b + 9) i)
def cpR (h : zHp) (a b : Nat) (g : zHp) : Prop := (∀ c : Nat, ¬ (a ≤ c ∧ c ≤ a + 3) → g c = h c) ∧ g a 0 = h b 0 ∧ (∀ i : Nat, i < 4 → g (a + 1) i = h (b + 1) i) ∧ (∀ i : Nat, i < 4 → g (a + 2) i = h (b + 2) i) ∧ (∀ i : Nat, i < 32 → g (a + 3) i = h (b + 3) i)
theorem zcp_on {h : zHp} {src dst cnt i : Nat} (hi : i < cnt) : zcp h src 0 dst 0 cnt dst i = h src i := by
  rw [zcp_rd, if_pos ⟨rfl, by omega, by omega⟩, Nat.zero_add, Nat.sub_zero]
theorem cpH_hcp (h : zHp) {a b : Nat} (hab : a + 9 < b ∨ b + 9 < a) : cpH h a b (zcp (zcp (zcp (zcp (zcp (zcp (zcp (zcp (zcp (zup (zup (zup (zup h a 0 (h b 0)) a 1 (h b 1)) a 6 (h b 6)) a 7 (h b 7)) (b + 1) 0 (a + 1) 0 8) (b + 2) 0 (a + 2) 0 8) (b + 3) 0 (a + 3) 0 8) (b + 4) 0 (a + 4) 0 8) (b + 5) 0 (a + 5) 0 20) (b + 6) 0 (a + 6) 0 20) (b + 7) 0 (a + 7) 0 20) (b + 8) 0 (a + 8) 0 160) (b + 9) 0 (a + 9) 0 160) := by
  refine ⟨fun c hc => by rw [zcp_off (by omega), zcp_off (by omega), zcp_off (by omega), zcp_off (by omega), zcp_off (by omega), zcp_off (by omega), zcp_off (by omega), zcp_off (by omega), zcp_off (by omega), zup_off (by omega), zup_off (by omega), zup_off (by omega), zup_off (by omega)], by rw [zcp_off (by omega), zcp_off (by omega), zcp_off (by omega), zcp_off (by omega), zcp_off (by omega), zcp_off (by omega), zcp_off (by omega), zcp_off (by omega), zcp_off (by omega), zup_ne (by omega), zup_ne (by omega), zup_ne (by omega), zup_at], by rw [zcp_off (by omega), zcp_off (by omega), zcp_off (by omega), zcp_off (by omega), zcp_off (by omega), zcp_off (by omega), zcp_off (by omega), zcp_off (by omega), zcp_off (by omega), zup_ne (by omega), zup_ne (by omega), zup_at], by rw [zcp_off (by omega), zcp_off (by omega), zcp_off (by omega), zcp_off (by omega), zcp_off (by omega), zcp_off (by omega), zcp_off (by omega), zcp_off (by omega), zcp_off (by omega), zup_ne (by omega), zup_at], by rw [zcp_off (by omega), zcp_off (by omega), zcp_off (by omega), zcp_off (by omega), zcp_off (by omega), zcp_off (by omega), zcp_off (by omega), zcp_off (by omega), zcp_off (by omega), zup_at], fun i hi => by rw [zcp_off (by omega), zcp_off (by omega), zcp_off (by omega), zcp_off (by omega), zcp_off (by omega), zcp_off (by omega), zcp_off (by omega), zcp_off (by omega), zcp_on hi, zup_off (by omega), zup_off (by omega), zup_off (by omega), zup_off (by omega)], fun i hi => by rw [zcp_off (by omega), zcp_off (by omega), zcp_off (by omega), zcp_off (by omega), zcp_off (by omega), zcp_off (by omega), zcp_off (by omega), zcp_on hi, zcp_off (by omega), zup_off (by omega), zup_off (by omega), zup_off (by omega), zup_off (by omega)], fun i hi => by rw [zcp_off (by omega), zcp_off (by omega), zcp_off (by omega), zcp_off (by omega), zcp_off (by omega), zcp_off (by omega), zcp_on hi, zcp_off (by omega), zcp_off (by omega), zup_off (by omega), zup_off (by omega), zup_off (by omega), zup_off (by omega)], fun i hi => by rw [zcp_off (by omega), zcp_off (by omega), zcp_off (by omega), zcp_off (by omega), zcp_off (by omega), zcp_on hi, zcp_off (by omega), zcp_off (by omega), zcp_off (by omega), zup_off (by omega), zup_off (by omega), zup_off (by omega), zup_off (by omega)], fun i hi => by rw [zcp_off (by omega), zcp_off (by omega), zcp_off (by omega), zcp_off (by omega), zcp_on hi, zcp_off (by omega), zcp_off (by omega), zcp_off (by omega), zcp_off (by omega), zup_off (by omega), zup_off (by omega), zup_off (by omega), zup_off (by omega)], fun i hi => by rw [zcp_off (by omega), zcp_off (by omega), zcp_off (by omega), zcp_on hi, zcp_off (by omega), zcp_off (by omega), zcp_off (by omega), zcp_off (by omega), zcp_off (by omega), zup_off (by omega), zup_off (by omega), zup_off (by omega), zup_off (by omega)], fun i hi => by rw [zcp_off (by omega), zcp_off (by omega), zcp_on hi, zcp_off (by omega), zcp_off (by omega), zcp_off (by omega), zcp_off (by omega), zcp_off (by omega), zcp_off (by omega), zup_off (by omega), zup_off (by omega), zup_off (by omega), zup_off (by omega)], fun i hi => by rw [zcp_off (by omega), zcp_on hi, zcp_off (by omega), zcp_off (by omega), zcp_off (by omega), zcp_off (by omega), zcp_off (by omega), zcp_off (by omega), zcp_off (by omega), zup_off (by omega), zup_off (by omega), zup_off (by omega), zup_off (by omega)], fun i hi => by rw [zcp_on hi, zcp_off (by omega), zcp_off (by omega), zcp_off (by omega), zcp_off (by omega), zcp_off (by omega), zcp_off (by omega), zcp_off (by omega), zcp_off (by omega), zup_off (by omega), zup_off (by omega), zup_off (by omega), zup_off (by omega)]⟩
theorem cpR_rcp (h : zHp) {a b : Nat} (hab : a + 3 < b ∨ b + 3 < a) : cpR h a b (zcp (zcp (zcp (zup h a 0 (h b 0)) (b + 1) 0 (a + 1) 0 4) (b + 2) 0 (a + 2) 0 4) (b + 3) 0 (a + 3) 0 32) := by
  refine ⟨fun c hc => by rw [zcp_off (by omega), zcp_off (by omega), zcp_off (by omega), zup_off (by omega)], by rw [zcp_off (by omega), zcp_off (by omega), zcp_off (by omega), zup_at], fun i hi => by rw [zcp_off (by omega), zcp_off (by omega), zcp_on hi, zup_off (by omega)], fun i hi => by rw [zcp_off (by omega), zcp_on hi, zcp_off (by omega), zup_off (by omega)], fun i hi => by rw [zcp_on hi, zcp_off (by omega), zcp_off (by omega), zup_off (by omega)]⟩
theorem x_copyHall (h : zHp) (a b : Nat) (ha : isH a) (hb : isH b) (hab : a + 9 < b ∨ b + 9 < a) : zCv mX5_copyFrom 1 [zA a, zA b] h (fun h' => cpH h a b h') := by
  refine z_enter [zA a, zA b] (by decide +kernel) (Nat.le_of_ble_eq_true rfl) rfl (fun hra hrg => ?_)
  refine z_al0 eX5_copyFrom_0 ?_
  refine z_al1 eX5_copyFrom_1 ?_
  refine z_gi eX5_copyFrom_2 fX5_40 (hlS hb) ?_
  refine z_pi eX5_copyFrom_5 pX5_40 (hlS ha) ?_
  refine z_al0 eX5_copyFrom_8 ?_
  refine z_al1 eX5_copyFrom_9 ?_
  refine z_gi eX5_copyFrom_10 fX5_44 (hlS hb) ?_
  rw [zup_off (by omega)]
  refine z_pi eX5_copyFrom_13 pX5_44 (hlS ha) ?_
  refine z_al0 eX5_copyFrom_16 ?_
  refine z_al1 eX5_copyFrom_17 ?_
  refine z_gi eX5_copyFrom_18 fX5_47 (hlS hb) ?_
  rw [zup_off (by omega), zup_off (by omega)]
  refine z_pz eX5_copyFrom_21 pX5_47 (hlS ha) (by have := hrg b 6 5 13 (by have := zsh_lt (hlS hb); omega) (hlS hb) (by omega); have : 0 ≤ h b 6 ∧ h b 6 ≤ 1 := this; omega) ?_
  refine z_al0 eX5_copyFrom_24 ?_
  refine z_al1 eX5_copyFrom_25 ?_
  refine z_gi eX5_copyFrom_26 fX5_51 (hlS hb) ?_
  rw [zup_off (by omega), zup_off (by omega), zup_off (by omega)]
  refine z_pi eX5_copyFrom_29 pX5_51 (hlS ha) ?_
  refine z_al1 eX5_copyFrom_32 ?_
  refine z_ga eX5_copyFrom_33 fX5_9 (hlS hb) (t := (b + 1)) (hlR1 hb) ?_
  refine z_ki eX5_copyFrom_36 ?_
  refine z_al0 eX5_copyFrom_37 ?_
  refine z_ga eX5_copyFrom_38 fX5_9 (hlS ha) (t := (a + 1)) (hlR1 ha) ?_
  refine z_ki eX5_copyFrom_41 ?_
  refine z_ki eX5_copyFrom_42 ?_
  refine zy_l eX5_copyFrom_44 lX5_54 (hlS1 hb) (hlS1 ha) (by decide) (by decide) (by decide) (by decide) (by decide) (by decide) (Nat.le_of_ble_eq_true rfl) ?_
  refine z_al1 eX5_copyFrom_47 ?_
  refine z_ga eX5_copyFrom_48 fX5_15 (hlS hb) (t := (b + 2)) (hlR2 hb) ?_
  refine z_ki eX5_copyFrom_51 ?_
  refine z_al0 eX5_copyFrom_52 ?_
  refine z_ga eX5_copyFrom_53 fX5_15 (hlS ha) (t := (a + 2)) (hlR2 ha) ?_
  refine z_ki eX5_copyFrom_56 ?_
  refine z_ki eX5_copyFrom_57 ?_
  refine zy_i eX5_copyFrom_59 lX5_54 (Or.inl rfl) (hlS2 hb) (hlS2 ha) (by decide) (by decide) (by decide) (by decide) (by decide) (by decide) (Nat.le_of_ble_eq_true rfl) ?_
  refine z_al1 eX5_copyFrom_62 ?_
  refine z_ga eX5_copyFrom_63 fX5_19 (hlS hb) (t := (b + 3)) (hlR3 hb) ?_
  refine z_ki eX5_copyFrom_66 ?_
  refine z_al0 eX5_copyFrom_67 ?_
  refine z_ga eX5_copyFrom_68 fX5_19 (hlS ha) (t := (a + 3)) (hlR3 ha) ?_
  refine z_ki eX5_copyFrom_71 ?_
  refine z_ki eX5_copyFrom_72 ?_
  refine zy_i eX5_copyFrom_74 lX5_54 (Or.inl rfl) (hlS3 hb) (hlS3 ha) (by decide) (by decide) (by decide) (by decide) (by decide) (by decide) (Nat.le_of_ble_eq_true rfl) ?_
  refine z_al1 eX5_copyFrom_77 ?_
  refine z_ga eX5_copyFrom_78 fX5_22 (hlS hb) (t := (b + 4)) (hlR4 hb) ?_
  refine z_ki eX5_copyFrom_81 ?_
  refine z_al0 eX5_copyFrom_82 ?_
  refine z_ga eX5_copyFrom_83 fX5_22 (hlS ha) (t := (a + 4)) (hlR4 ha) ?_
  refine z_ki eX5_copyFrom_86 ?_
  refine z_ki eX5_copyFrom_87 ?_
  refine zy_i eX5_copyFrom_89 lX5_54 (Or.inl rfl) (hlS4 hb) (hlS4 ha) (by decide) (by decide) (by decide) (by decide) (by decide) (by decide) (Nat.le_of_ble_eq_true rfl) ?_
  refine z_al1 eX5_copyFrom_92 ?_
  refine z_ga eX5_copyFrom_93 fX5_25 (hlS hb) (t := (b + 5)) (hlR5 hb) ?_
  refine z_ki eX5_copyFrom_96 ?_
  refine z_al0 eX5_copyFrom_97 ?_
  refine z_ga eX5_copyFrom_98 fX5_25 (hlS ha) (t := (a + 5)) (hlR5 ha) ?_
  refine z_ki eX5_copyFrom_101 ?_
  refine z_ki eX5_copyFrom_102 ?_
  refine zy_i eX5_copyFrom_104 lX5_54 (Or.inl rfl) (hlS5 hb) (hlS5 ha) (by decide) (by decide) (by decide) (by decide) (by decide) (by decide) (Nat.le_of_ble_eq_true rfl) ?_
  refine z_al1 eX5_copyFrom_107 ?_
  refine z_ga eX5_copyFrom_108 fX5_28 (hlS hb) (t := (b + 6)) (hlR6 hb) ?_
  refine z_ki eX5_copyFrom_111 ?_
  refine z_al0 eX5_copyFrom_112 ?_
  refine z_ga eX5_copyFrom_113 fX5_28 (hlS ha) (t := (a + 6)) (hlR6 ha) ?_
  refine z_ki eX5_copyFrom_116 ?_
  refine z_ki eX5_copyFrom_117 ?_
  refine zy_i eX5_copyFrom_119 lX5_54 (Or.inl rfl) (hlS6 hb) (hlS6 ha) (by decide) (by decide) (by decide) (by decide) (by decide) (by decide) (Nat.le_of_ble_eq_true rfl) ?_
  refine z_al1 eX5_copyFrom_122 ?_
  refine z_ga eX5_copyFrom_123 fX5_31 (hlS hb) (t := (b + 7)) (hlR7 hb) ?_
  refine z_ki eX5_copyFrom_126 ?_
  refine z_al0 eX5_copyFrom_127 ?_
  refine z_ga eX5_copyFrom_128 fX5_31 (hlS ha) (t := (a + 7)) (hlR7 ha) ?_
  refine z_ki eX5_copyFrom_131 ?_
  refine z_ki eX5_copyFrom_132 ?_
  refine zy_i eX5_copyFrom_134 lX5_54 (Or.inl rfl) (hlS7 hb) (hlS7 ha) (by decide) (by decide) (by decide) (by decide) (by decide) (by decide) (Nat.le_of_ble_eq_true rfl) ?_
  refine z_al1 eX5_copyFrom_137 ?_
  refine z_ga eX5_copyFrom_138 fX5_34 (hlS hb) (t := (b + 8)) (hlR8 hb) ?_
  refine z_ki eX5_copyFrom_141 ?_
  refine z_al0 eX5_copyFrom_142 ?_
  refine z_ga eX5_copyFrom_143 fX5_34 (hlS ha) (t := (a + 8)) (hlR8 ha) ?_
  refine z_ki eX5_copyFrom_146 ?_
  refine z_ki eX5_copyFrom_147 ?_
  refine zy_i eX5_copyFrom_150 lX5_54 (Or.inl rfl) (hlS8 hb) (hlS8 ha) (by decide) (by decide) (by decide) (by decide) (by decide) (by decide) (Nat.le_of_ble_eq_true rfl) ?_
  refine z_al1 eX5_copyFrom_153 ?_
  refine z_ga eX5_copyFrom_154 fX5_37 (hlS hb) (t := (b + 9)) (hlR9 hb) ?_
  refine z_ki eX5_copyFrom_157 ?_
  refine z_al0 eX5_copyFrom_158 ?_
  refine z_ga eX5_copyFrom_159 fX5_37 (hlS ha) (t := (a + 9)) (hlR9 ha) ?_
  refine z_ki eX5_copyFrom_162 ?_
  refine z_ki eX5_copyFrom_163 ?_
  refine zy_i eX5_copyFrom_166 lX5_54 (Or.inl rfl) (hlS9 hb) (hlS9 ha) (by decide) (by decide) (by decide) (by decide) (by decide) (by decide) (Nat.le_of_ble_eq_true rfl) ?_
  refine ze_v eX5_copyFrom_169 rfl ?_
  exact cpH_hcp h hab
theorem x_copyRule (h : zHp) (a b : Nat) (ha : isR a) (hb : isR b) (hab : a + 3 < b ∨ b + 3 < a) : zCv mX7_copyFrom 1 [zA a, zA b] h (fun h' => cpR h a b h') := by
  refine z_enter [zA a, zA b] (by decide +kernel) (Nat.le_of_ble_eq_true rfl) rfl (fun hra hrg => ?_)
  refine z_al0 eX7_copyFrom_0 ?_
  refine z_al1 eX7_copyFrom_1 ?_
  refine z_gi eX7_copyFrom_2 fX7_9 (rlS hb) ?_
  refine z_pi eX7_copyFrom_5 pX7_9 (rlS ha) ?_
  refine z_al1 eX7_copyFrom_8 ?_
  refine z_ga eX7_copyFrom_9 fX7_15 (rlS hb) (t := (b + 1)) (rlR1 hb) ?_
  refine z_ki eX7_copyFrom_12 ?_
  refine z_al0 eX7_copyFrom_13 ?_
  refine z_ga eX7_copyFrom_14 fX7_15 (rlS ha) (t := (a + 1)) (rlR1 ha) ?_
  refine z_ki eX7_copyFrom_17 ?_
  refine z_ki eX7_copyFrom_18 ?_
  refine zy_i eX7_copyFrom_19 lX7_25 (Or.inl rfl) (rlS1 hb) (rlS1 ha) (by decide) (by decide) (by decide) (by decide) (by decide) (by decide) (Nat.le_of_ble_eq_true rfl) ?_
  refine z_al1 eX7_copyFrom_22 ?_
  refine z_ga eX7_copyFrom_23 fX7_19 (rlS hb) (t := (b + 2)) (rlR2 hb) ?_
  refine z_ki eX7_copyFrom_26 ?_
  refine z_al0 eX7_copyFrom_27 ?_
  refine z_ga eX7_copyFrom_28 fX7_19 (rlS ha) (t := (a + 2)) (rlR2 ha) ?_
  refine z_ki eX7_copyFrom_31 ?_
  refine z_ki eX7_copyFrom_32 ?_
  refine zy_i eX7_copyFrom_33 lX7_25 (Or.inl rfl) (rlS2 hb) (rlS2 ha) (by decide) (by decide) (by decide) (by decide) (by decide) (by decide) (Nat.le_of_ble_eq_true rfl) ?_
  refine z_al1 eX7_copyFrom_36 ?_
  refine z_ga eX7_copyFrom_37 fX7_22 (rlS hb) (t := (b + 3)) (rlR3 hb) ?_
  refine z_ki eX7_copyFrom_40 ?_
  refine z_al0 eX7_copyFrom_41 ?_
  refine z_ga eX7_copyFrom_42 fX7_22 (rlS ha) (t := (a + 3)) (rlR3 ha) ?_
  refine z_ki eX7_copyFrom_45 ?_
  refine z_ki eX7_copyFrom_46 ?_
  refine zy_i eX7_copyFrom_48 lX7_25 (Or.inl rfl) (rlS3 hb) (rlS3 ha) (by decide) (by decide) (by decide) (by decide) (by decide) (by decide) (Nat.le_of_ble_eq_true rfl) ?_
  refine ze_v eX7_copyFrom_51 rfl ?_
  exact cpR_rcp h hab
theorem hallR_mv {h g : zHp} {a b : Nat} {D D' W W' : Nat → Int} (C : cpH h a b g) (e : ∀ j : Nat, j < 300 → D' j = D j) (eW : ∀ k : Nat, k < 8 → W' k = W k) (H : hallR h b D W) : hallR g a D' W' := by
  obtain ⟨-, f0, f1, -, f7, r1, r2, r3, r4, r5, r6, r7, r8, r9⟩ := C
  obtain ⟨hb, h2, h3, h4, h5, h6, h7, h8, h9⟩ := H
  have hN := nN_le hb
  have hN2 := nN_eq hb
  have hS := nS_le hb
  have ep : ∀ s k : Nat, s < 20 → k < 8 → pX g a s k = pX h b s k := fun s k hs hk => by unfold pX; rw [r9 _ (by omega)]
  refine ⟨dB_cg e hb, by rw [nN_cg e, e 2 (by omega)]; exact h2, by rw [f0, e 0 (by omega)]; exact h3, by rw [f1, e 2 (by omega)]; exact h4, by rw [f7, e 1 (by omega)]; exact h5, fun k hk => ?_, fun s hs => ?_, fun s k hs hk => ?_, ?_⟩
  · rw [nN_cg e] at hk
    have q := h6 k hk
    have q5 := hb.2.2.2.2.2.1 k hk
    rw [r1 _ (by omega), r2 _ (by omega), r3 _ (by omega), r4 _ (by omega), eW k (by omega), e (3 + k) (by omega), e (11 + k) (by omega), e 0 (by omega), e (11 + (h (b + 3) k).toNat) (by omega), r3 _ (by omega)]
    exact q
  · rw [nS_cg e] at hs
    rw [r5 _ (by omega), r6 _ (by omega), r7 _ (by omega), e (20 + s) (by omega), e (40 + s) (by omega), e (60 + s) (by omega)]
    exact h7 s hs
  · rw [nS_cg e] at hs
    rw [nN_cg e] at hk
    rw [r8 _ (by omega), r9 _ (by omega), e _ (by omega)]
    exact h8 s k hs hk
  · intro s k hs hk
    rw [nS_cg e] at hs
    rw [nN_cg e] at hk
    have q := h9 s k hs hk
    have qo := (oD_lt hb hs hk).1
    rw [nN_cg e, ep s k (by omega) (by omega), oD_cg e (by omega) (by omega), oD_cg e (by omega) (by omega), ep s _ (by omega) (by omega)]
    exact q
theorem ruleR_mv {h g : zHp} {a b : Nat} {D D' : Nat → Int} (C : cpR h a b g) (hb : dB D) (e : ∀ j : Nat, j < 300 → D' j = D j) (H : ruleR h b D) : ruleR g a D' := ruleR_cg2 hb C.2.1 C.2.2.1 C.2.2.2.1 C.2.2.2.2 (fun j _ h2 => e j h2) H
theorem isHm {m : Nat} (h : m < 3) : isH (75 + 14 * m) ∧ isR (85 + 14 * m) ∧ zRTa 48 m = 75 + 14 * m ∧ zRTa 49 m = 85 + 14 * m := by
  have : m = 0 ∨ m = 1 ∨ m = 2 := by omega
  rcases this with rfl | rfl | rfl
  · exact ⟨Or.inr (Or.inr (Or.inl rfl)), Or.inr (Or.inr (Or.inl rfl)), rfl, rfl⟩
  · exact ⟨Or.inr (Or.inr (Or.inr (Or.inl rfl))), Or.inr (Or.inr (Or.inr (Or.inl rfl))), rfl, rfl⟩
  · exact ⟨Or.inr (Or.inr (Or.inr (Or.inr rfl))), Or.inr (Or.inr (Or.inr (Or.inr rfl))), rfl, rfl⟩
theorem x_mark (h : zHp) (m : Nat) (hm3 : m ≤ 3) (he : h 0 11 = (m : Int)) : zCi mX11_mark 2 [zA 0] h (fun v h' => (m < 3 → ((m + 1 : Nat) : Int) = v ∧ ∃ g1 g2, cpH h (75 + 14 * m) 4 g1 ∧ cpR g1 (85 + 14 * m) 24 g2 ∧ zup (zup g2 0 11 ((m + 1 : Nat) : Int)) 0 0 0 = h') ∧ (¬ m < 3 → pX0 h (-1, 7) v h')) := by
  refine z_enter [zA 0] (by decide +kernel) (Nat.le_of_ble_eq_true rfl) rfl (fun hra hrg => ?_)
  refine z_al0 eX11_mark_0 ?_
  refine z_gi eX11_mark_1 fX11_383 zs0 ?_
  refine z_ki eX11_mark_4 ?_
  refine z_clt eX11_mark_5 rfl (fun c5 => ?_) (fun c5 => ?_)
  · have hm : m < 3 := by omega
    refine z_al0 eX11_mark_15 ?_
    refine z_ga eX11_mark_16 fX11_52 zs0 (t := 48) rfl ?_
    refine z_al0 eX11_mark_19 ?_
    refine z_gi eX11_mark_20 fX11_383 zs0 ?_
    rw [he]
    refine zr_aN eX11_mark_23 zs48 (Or.inr (Or.inl rfl)) (j := m) (by omega) (by omega) (t := (75 + 14 * m)) (isHm hm).2.2.1 ?_
    refine z_al0 eX11_mark_24 ?_
    refine z_ga eX11_mark_25 fX11_25 zs0 (t := 4) rfl ?_
    refine zc_vv1 eX11_mark_28 lX11_198 tX5_copyFrom (hlS (isHm hm).1) (by decide) (Nat.le_of_ble_eq_true rfl) (x_copyHall _ (75 + 14 * m) 4 (isHm hm).1 (Or.inl rfl) (by omega)) ?_
    rintro g1 C1
    refine z_al0 eX11_mark_31 ?_
    refine z_ga eX11_mark_32 fX11_56 zs0 (t := 49) rfl ?_
    refine z_al0 eX11_mark_35 ?_
    refine z_gi eX11_mark_36 fX11_383 zs0 ?_
    rw [C1.1 0 (by omega), he]
    refine zr_aN eX11_mark_39 zs49 (Or.inr (Or.inr rfl)) (j := m) (by omega) (by omega) (t := (85 + 14 * m)) (isHm hm).2.2.2 ?_
    refine z_al0 eX11_mark_40 ?_
    refine z_ga eX11_mark_41 fX11_35 zs0 (t := 24) rfl ?_
    refine zc_vv1 eX11_mark_44 lX11_206 tX7_copyFrom (rlS (isHm hm).2.1) (by decide) (Nat.le_of_ble_eq_true rfl) (x_copyRule _ (85 + 14 * m) 24 (isHm hm).2.1 (Or.inl rfl) (by omega)) ?_
    rintro g2 C2
    refine z_al0 eX11_mark_47 ?_
    refine z_dup eX11_mark_48 zn2 ?_
    refine z_gi eX11_mark_49 fX11_383 zs0 ?_
    rw [C2.1 0 (by omega), C1.1 0 (by omega), he]
    refine z_ki eX11_mark_52 ?_
    refine z_iaddN eX11_mark_53 (by omega) (by omega) ?_
    refine z_pi eX11_mark_54 pX11_383 zs0 ?_
    refine z_al0 eX11_mark_57 ?_
    refine z_al0 eX11_mark_58 ?_
    refine z_gi eX11_mark_59 fX11_383 zs0 ?_
    rw [zup_at]
    refine zc_vi1 eX11_mark_62 lX11_202 tX11_answer zs0 (by decide) (Nat.le_of_ble_eq_true rfl) (x_answer _ _) ?_
    rintro _ _ ⟨rfl, rfl⟩ -
    refine ze_i eX11_mark_65 rfl ?_
    exact ⟨fun _ => ⟨rfl, g1, g2, C1, C2, rfl⟩, fun q => absurd hm q⟩
  · refine z_al0 eX11_mark_8 ?_
    refine z_ki eX11_mark_9 ?_
    refine zc_vi1 eX11_mark_11 lX11_153 tX11_fail zs0 (by decide) (Nat.le_of_ble_eq_true rfl) (x_fail _ _) ?_
    rintro _ _ ⟨rfl, rfl⟩ -
    refine ze_i eX11_mark_14 rfl ?_
    exact ⟨fun q => by omega, fun _ => pX0_f zXf.rf rfl⟩
theorem x_back (h : zHp) (m : Nat) (hm3 : m ≤ 2) (z : Prop) (he : h 0 11 = (m : Int) + 1 ∧ z ∨ h 0 11 = 0 ∧ ¬ z) : zCi mX11_back 2 [zA 0] h (fun v h' => (z → (m : Int) = v ∧ ∃ g1 g2, cpH (zup h 0 11 (m : Int)) 4 (75 + 14 * m) g1 ∧ cpR g1 24 (85 + 14 * m) g2 ∧ zup g2 0 0 0 = h') ∧ (¬ z → pX0 h (-1, 8) v h')) := by
  refine z_enter [zA 0] (by decide +kernel) (Nat.le_of_ble_eq_true rfl) rfl (fun hra hrg => ?_)
  refine z_al0 eX11_back_0 ?_
  refine z_gi eX11_back_1 fX11_383 zs0 ?_
  refine z_igt eX11_back_4 rfl (fun c4 => ?_) (fun c4 => ?_)
  · have hm : m < 3 := by omega
    have he1 : h 0 11 = (m : Int) + 1 ∧ z := by
      rcases he with q | q
      · exact q
      · omega
    refine z_al0 eX11_back_14 ?_
    refine z_dup eX11_back_15 zn2 ?_
    refine z_gi eX11_back_16 fX11_383 zs0 ?_
    refine z_ki eX11_back_19 ?_
    refine z_isubN eX11_back_20 (by omega) (by omega) ?_
    rw [show h 0 11 - 1 = (m : Int) by omega]
    refine z_pi eX11_back_21 pX11_383 zs0 ?_
    refine z_al0 eX11_back_24 ?_
    refine z_ga eX11_back_25 fX11_25 zs0 (t := 4) rfl ?_
    refine z_al0 eX11_back_28 ?_
    refine z_ga eX11_back_29 fX11_52 zs0 (t := 48) rfl ?_
    refine z_al0 eX11_back_32 ?_
    refine z_gi eX11_back_33 fX11_383 zs0 ?_
    rw [zup_at]
    refine zr_aN eX11_back_36 zs48 (Or.inr (Or.inl rfl)) (j := m) (by omega) (by omega) (t := (75 + 14 * m)) (isHm hm).2.2.1 ?_
    refine zc_vv1 eX11_back_37 lX11_198 tX5_copyFrom zs4 (by decide) (Nat.le_of_ble_eq_true rfl) (x_copyHall _ 4 (75 + 14 * m) (Or.inl rfl) (isHm hm).1 (by omega)) ?_
    rintro g1 C1
    refine z_al0 eX11_back_40 ?_
    refine z_ga eX11_back_41 fX11_35 zs0 (t := 24) rfl ?_
    refine z_al0 eX11_back_44 ?_
    refine z_ga eX11_back_45 fX11_56 zs0 (t := 49) rfl ?_
    refine z_al0 eX11_back_48 ?_
    refine z_gi eX11_back_49 fX11_383 zs0 ?_
    rw [C1.1 0 (by omega), zup_at]
    refine zr_aN eX11_back_52 zs49 (Or.inr (Or.inr rfl)) (j := m) (by omega) (by omega) (t := (85 + 14 * m)) (isHm hm).2.2.2 ?_
    refine zc_vv1 eX11_back_53 lX11_206 tX7_copyFrom zs24 (by decide) (Nat.le_of_ble_eq_true rfl) (x_copyRule _ 24 (85 + 14 * m) (Or.inl rfl) (isHm hm).2.1 (by omega)) ?_
    rintro g2 C2
    refine z_al0 eX11_back_56 ?_
    refine z_al0 eX11_back_57 ?_
    refine z_gi eX11_back_58 fX11_383 zs0 ?_
    rw [C2.1 0 (by omega), C1.1 0 (by omega), zup_at]
    refine zc_vi1 eX11_back_61 lX11_202 tX11_answer zs0 (by decide) (Nat.le_of_ble_eq_true rfl) (x_answer _ _) ?_
    rintro _ _ ⟨rfl, rfl⟩ -
    refine ze_i eX11_back_64 rfl ?_
    exact ⟨fun _ => ⟨rfl, g1, g2, C1, C2, rfl⟩, fun q => absurd he1.2 q⟩
  · refine z_al0 eX11_back_7 ?_
    refine z_ki eX11_back_8 ?_
    refine zc_vi1 eX11_back_10 lX11_153 tX11_fail zs0 (by decide) (Nat.le_of_ble_eq_true rfl) (x_fail _ _) ?_
    rintro _ _ ⟨rfl, rfl⟩ -
    refine ze_i eX11_back_13 rfl ?_
    refine ⟨fun q => ?_, fun _ => pX0_f zXf.rf rfl⟩
    rcases he with q2 | q2
    · omega
    · exact absurd q q2.2
theorem zcp_0 (h : zHp) (src sp dst dp : Nat) : zcp h src sp dst dp 0 = h := by
  funext a i
  rw [zcp_rd, if_neg (by omega)]
theorem zcp_s {h : zHp} {src sp dst dp k : Nat} {v : Int} (hv : v = h src (sp + k)) : zup (zcp h src sp dst dp k) dst (dp + k) v = zcp h src sp dst dp (k + 1) := by
  subst hv
  funext a i
  simp only [zup_rd, zcp_rd]
  by_cases e : a = dst ∧ i = dp + k
  · rw [if_pos e, if_pos ⟨e.1, by omega, by omega⟩, show i - dp = k by omega]
  · rw [if_neg e]
    by_cases z : a = dst ∧ dp ≤ i ∧ i < dp + k
    · rw [if_pos z, if_pos (by omega)]
    · rw [if_neg z, if_neg (by omega)]
theorem r_copy_2 (h : zHp) (f t : Nat) (hf : f ≤ 3) (ht : t ≤ 3) (hft : ¬ f = t) : ∀ (r k : Nat), k + r = 8 → zRW mX12_copy 0 (0, 0) 41 [zA 117, zI f, zI t, zI k] [] 143 (zcp h 123 (8 * f) 123 (8 * t) k) (zqv (fun h' => zcp h 123 (8 * f) 123 (8 * t) 8 = h')) := by
  intro r
  induction r using Nat.strongRecOn with
  | ind r ih =>
    intro k hk
    refine z_il3 eX12_copy_41 ?_
    refine z_ki eX12_copy_42 ?_
    refine z_cge eX12_copy_44 rfl (fun c44 => ?_) (fun c44 => ?_)
    · refine ze_v eX12_copy_75 rfl ?_
      have e : k = 8 := by omega
      subst e
      rfl
    · refine z_al0 eX12_copy_47 ?_
      refine z_ga eX12_copy_48 fX12_38 zs117 (t := 123) rfl ?_
      refine z_ki eX12_copy_51 ?_
      refine z_il2 eX12_copy_53 ?_
      refine z_imulN eX12_copy_54 (by omega) (by omega) ?_
      refine z_il3 eX12_copy_55 ?_
      refine z_iaddN eX12_copy_56 (by omega) (by omega) ?_
      refine z_al0 eX12_copy_57 ?_
      refine z_ga eX12_copy_58 fX12_38 zs117 (t := 123) rfl ?_
      refine z_ki eX12_copy_61 ?_
      refine z_il1 eX12_copy_63 ?_
      refine z_imulN eX12_copy_64 (by omega) (by omega) ?_
      refine z_il3 eX12_copy_65 ?_
      refine z_iaddN eX12_copy_66 (by omega) (by omega) ?_
      refine zr_lN eX12_copy_67 zs123 (j := 8 * f + k) (by omega) (by omega) ?_
      rw [zcp_rd, if_neg (by omega)]
      refine zs_lN eX12_copy_68 zs123 (j := 8 * t + k) (by omega) (by omega) ?_
      refine z_incN3 eX12_copy_69 zn0 (by omega) (by omega) ?_
      refine z_goto eX12_copy_72 rfl ?_
      rw [zcp_s rfl]
      exact ih (r - 1) (by omega) (k + 1) (by omega)
theorem r_copy_1 (h : zHp) (f t : Nat) (hf : f ≤ 3) (ht : t ≤ 3) (hft : ¬ f = t) : ∀ (r k : Nat), k + r = 300 → zRW mX12_copy 0 (0, 0) 2 [zA 117, zI f, zI t, zI k] [] 143 (zcp h 122 (300 * f) 122 (300 * t) k) (zqv (fun h' => zcp (zcp h 122 (300 * f) 122 (300 * t) 300) 123 (8 * f) 123 (8 * t) 8 = h')) := by
  intro r
  induction r using Nat.strongRecOn with
  | ind r ih =>
    intro k hk
    refine z_il3 eX12_copy_2 ?_
    refine z_ki eX12_copy_3 ?_
    refine z_cge eX12_copy_6 rfl (fun c6 => ?_) (fun c6 => ?_)
    · refine z_ki eX12_copy_39 ?_
      refine z_is3 eX12_copy_40 zn0 ?_
      have e : k = 300 := by omega
      subst e
      have q := r_copy_2 (zcp h 122 (300 * f) 122 (300 * t) 300) f t hf ht hft 8 0 rfl
      rw [zcp_0] at q
      exact q
    · refine z_al0 eX12_copy_9 ?_
      refine z_ga eX12_copy_10 fX12_35 zs117 (t := 122) rfl ?_
      refine z_ki eX12_copy_13 ?_
      refine z_il2 eX12_copy_16 ?_
      refine z_imulN eX12_copy_17 (by omega) (by omega) ?_
      refine z_il3 eX12_copy_18 ?_
      refine z_iaddN eX12_copy_19 (by omega) (by omega) ?_
      refine z_al0 eX12_copy_20 ?_
      refine z_ga eX12_copy_21 fX12_35 zs117 (t := 122) rfl ?_
      refine z_ki eX12_copy_24 ?_
      refine z_il1 eX12_copy_27 ?_
      refine z_imulN eX12_copy_28 (by omega) (by omega) ?_
      refine z_il3 eX12_copy_29 ?_
      refine z_iaddN eX12_copy_30 (by omega) (by omega) ?_
      refine zr_iN eX12_copy_31 zs122 (j := 300 * f + k) (by omega) (by omega) ?_
      rw [zcp_rd, if_neg (by omega)]
      refine zs_iN eX12_copy_32 zs122 (j := 300 * t + k) (by omega) (by omega) ?_
      refine z_incN3 eX12_copy_33 zn0 (by omega) (by omega) ?_
      refine z_goto eX12_copy_36 rfl ?_
      rw [zcp_s rfl]
      exact ih (r - 1) (by omega) (k + 1) (by omega)
theorem r_copy (h : zHp) (f t : Nat) (hf : f ≤ 3) (ht : t ≤ 3) (hft : ¬ f = t) : zCv mX12_copy 0 [zA 117, zI f, zI t] h (fun h' => zcp (zcp h 122 (300 * f) 122 (300 * t) 300) 123 (8 * f) 123 (8 * t) 8 = h') := by
  refine z_enter [zA 117, zI f, zI t, zU] (by decide +kernel) (Nat.le_of_ble_eq_true rfl) rfl (fun hra hrg => ?_)
  refine z_ki eX12_copy_0 ?_
  refine z_is3 eX12_copy_1 zn0 ?_
  have q := r_copy_1 h f t hf ht hft 300 0 rfl
  rw [zcp_0] at q
  exact q
theorem r_mark (h : zHp) (m : Nat) (hm3 : m ≤ 3) (he : h 117 22 = (m : Int)) : zCi mX12_mark 1 [zA 117] h (fun v h' => (m < 3 → ((m + 1 : Nat) : Int) = v ∧ zcp (zcp (zup (zup (zup h 117 1 0) 117 0 0) 117 22 ((m + 1 : Nat) : Int)) 122 (300 * 0) 122 (300 * (m + 1)) 300) 123 (8 * 0) 123 (8 * (m + 1)) 8 = h') ∧ (¬ m < 3 → pM0 h (-1, 7) v h')) := by
  refine z_enter [zA 117] (by decide +kernel) (Nat.le_of_ble_eq_true rfl) rfl (fun hra hrg => ?_)
  refine z_al0 eX12_mark_0 ?_
  refine z_ki eX12_mark_1 ?_
  refine z_pi eX12_mark_2 pX12_98 zs117 ?_
  refine z_al0 eX12_mark_5 ?_
  refine z_ki eX12_mark_6 ?_
  refine z_pi eX12_mark_7 pX12_101 zs117 ?_
  generalize hg : zup (zup h 117 1 0) 117 0 0 = g
  obtain ⟨ga, gf, g0⟩ := m_g hg
  have he2 : g 117 22 = (m : Int) := (gf 22 (by decide) (by decide)).trans he
  refine z_al0 eX12_mark_10 ?_
  refine z_gi eX12_mark_11 fX12_541 zs117 ?_
  rw [he2]
  refine z_ki eX12_mark_14 ?_
  refine z_cne eX12_mark_15 rfl (fun c15 => ?_) (fun c15 => ?_)
  · refine z_al0 eX12_mark_25 ?_
    refine z_dup eX12_mark_26 zn2 ?_
    refine z_gi eX12_mark_27 fX12_541 zs117 ?_
    rw [he2]
    refine z_ki eX12_mark_30 ?_
    refine z_iaddN eX12_mark_31 (by omega) (by omega) ?_
    refine z_pi eX12_mark_32 pX12_541 zs117 ?_
    refine z_al0 eX12_mark_35 ?_
    refine z_ki eX12_mark_36 ?_
    refine z_al0 eX12_mark_37 ?_
    refine z_gi eX12_mark_38 fX12_541 zs117 ?_
    rw [zup_at]
    refine zc_vv2 eX12_mark_41 lX12_544 tX12_copy zs117 (by decide) (Nat.le_of_ble_eq_true rfl) (r_copy _ 0 (m + 1) (by omega) (by omega) (by omega)) ?_
    rintro _ rfl
    refine z_al0 eX12_mark_44 ?_
    refine z_gi eX12_mark_45 fX12_541 zs117 ?_
    rw [zcp_off (by decide), zcp_off (by decide), zup_at]
    refine ze_i eX12_mark_48 rfl ?_
    exact ⟨fun _ => ⟨rfl, rfl⟩, fun q => absurd (show m < 3 by omega) q⟩
  · refine z_al0 eX12_mark_18 ?_
    refine z_ki eX12_mark_19 ?_
    refine zc_vi1 eX12_mark_21 lX12_275 tX12_refuse zs117 (by decide) (Nat.le_of_ble_eq_true rfl) (r_refuse _ _) ?_
    rintro _ _ ⟨rfl, rfl⟩ -
    refine ze_i eX12_mark_24 rfl ?_
    exact ⟨fun q => by omega, fun _ => pM0_fr hg zMf.rf rfl⟩
theorem r_back (h : zHp) (m : Nat) (hm3 : m ≤ 2) (z : Prop) (he : h 117 22 = (m : Int) + 1 ∧ z ∨ h 117 22 = 0 ∧ ¬ z) : zCi mX12_back 1 [zA 117] h (fun v h' => (z → (m : Int) = v ∧ zup (zcp (zcp (zup (zup h 117 1 0) 117 0 0) 122 (300 * (m + 1)) 122 (300 * 0) 300) 123 (8 * (m + 1)) 123 (8 * 0) 8) 117 22 (m : Int) = h') ∧ (¬ z → pM0 h (-1, 8) v h')) := by
  refine z_enter [zA 117] (by decide +kernel) (Nat.le_of_ble_eq_true rfl) rfl (fun hra hrg => ?_)
  refine z_al0 eX12_back_0 ?_
  refine z_ki eX12_back_1 ?_
  refine z_pi eX12_back_2 pX12_98 zs117 ?_
  refine z_al0 eX12_back_5 ?_
  refine z_ki eX12_back_6 ?_
  refine z_pi eX12_back_7 pX12_101 zs117 ?_
  generalize hg : zup (zup h 117 1 0) 117 0 0 = g
  obtain ⟨ga, gf, g0⟩ := m_g hg
  have he2 : g 117 22 = (m : Int) + 1 ∧ z ∨ g 117 22 = 0 ∧ ¬ z := by rw [gf 22 (by decide) (by decide)]; exact he
  refine z_al0 eX12_back_10 ?_
  refine z_gi eX12_back_11 fX12_541 zs117 ?_
  refine z_ine eX12_back_14 rfl (fun c14 => ?_) (fun c14 => ?_)
  · have he1 : g 117 22 = (m : Int) + 1 ∧ z := by
      rcases he2 with q | q
      · exact q
      · omega
    refine z_al0 eX12_back_24 ?_
    refine z_al0 eX12_back_25 ?_
    refine z_gi eX12_back_26 fX12_541 zs117 ?_
    rw [show g 117 22 = ((m + 1 : Nat) : Int) by omega]
    refine z_ki eX12_back_29 ?_
    refine zc_vv2 eX12_back_30 lX12_544 tX12_copy zs117 (by decide) (Nat.le_of_ble_eq_true rfl) (r_copy _ (m + 1) 0 (by omega) (by omega) (by omega)) ?_
    rintro _ rfl
    refine z_al0 eX12_back_33 ?_
    refine z_dup eX12_back_34 zn2 ?_
    refine z_gi eX12_back_35 fX12_541 zs117 ?_
    rw [zcp_off (by decide), zcp_off (by decide), he1.1]
    refine z_ki eX12_back_38 ?_
    refine z_isubN eX12_back_39 (by omega) (by omega) ?_
    rw [show (m : Int) + 1 - 1 = (m : Int) by omega]
    refine z_pi eX12_back_40 pX12_541 zs117 ?_
    refine z_al0 eX12_back_43 ?_
    refine z_gi eX12_back_44 fX12_541 zs117 ?_
    rw [zup_at]
    refine ze_i eX12_back_47 rfl ?_
    exact ⟨fun _ => ⟨rfl, rfl⟩, fun q => absurd he1.2 q⟩
  · refine z_al0 eX12_back_17 ?_
    refine z_ki eX12_back_18 ?_
    refine zc_vi1 eX12_back_20 lX12_275 tX12_refuse zs117 (by decide) (Nat.le_of_ble_eq_true rfl) (r_refuse _ _) ?_
    rintro _ _ ⟨rfl, rfl⟩ -
    refine ze_i eX12_back_23 rfl ?_
    refine ⟨fun q => ?_, fun _ => pM0_fr hg zMf.rf rfl⟩
    rcases he2 with q2 | q2
    · omega
    · exact absurd q q2.2
