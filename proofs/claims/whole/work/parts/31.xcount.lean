-- the class counts (written by wip/tools/specX1.py)
theorem x_margin_l (h : zHp) (D w : Nat → Int) (P : Nat → Nat → Nat) (hb : dB D) (hp : pB D P) (hx : hX h D P) (hvb : vB D w) (va : Nat) (hva : zSH[va]? = some (20, 20)) (hw : h va = w) (a b : Nat) (ha : a < nN D) (hbb : b < nN D) (hab : ¬ a = b) : ∀ (r s : Nat), s + r = nS D → zRW mX2_margin 0 (0, 0) 6 [zA 50, zI a, zI b, zA va, zI (sumN (morS D w a b) s), zI s, zU] [] 143 h (zqi (fun v h' => moreOf D w a b = v ∧ h = h')) := by
  obtain ⟨x0, x1, x2, x3⟩ := hx
  have hN := nN_eq hb
  have hN8 := nN_le hb
  have hS := nS_eq hb
  have hS20 := nS_le hb
  intro r
  induction r using Nat.strongRecOn with
  | ind r ih =>
    intro s hs
    refine z_il5 eX2_margin_6 ?_
    refine z_al0 eX2_margin_8 ?_
    refine z_ga eX2_margin_9 fX2_21 zs50 (t := 4) rfl ?_
    refine z_gi eX2_margin_12 fX2_78 zs4 ?_
    refine z_cge eX2_margin_15 rfl (fun c15 => ?_) (fun c15 => ?_)
    · refine z_il4 eX2_margin_75 ?_
      refine ze_i eX2_margin_77 rfl ?_
      have e : s = nS D := by omega
      subst e
      exact ⟨rfl, rfl⟩
    · refine z_il5 eX2_margin_18 ?_
      refine z_ki eX2_margin_20 ?_
      refine z_imulN eX2_margin_22 (by omega) (by omega) ?_
      refine z_is6 eX2_margin_23 zn0 ?_
      have hv := hvb s (by omega)
      have hsum := morS_b hvb a b s (by omega)
      have e1 := (x2 s a (by omega) ha).2
      have e2 := (x2 s b (by omega) hbb).2
      have e3 := plc_pair hb hp (show s < nS D by omega) ha hbb hab
      refine z_il4 eX2_margin_25 ?_
      refine z_al0 eX2_margin_27 ?_
      refine z_ga eX2_margin_28 fX2_21 zs50 (t := 4) rfl ?_
      refine z_ga eX2_margin_31 fX2_103 zs4 (t := 13) rfl ?_
      refine z_il6 eX2_margin_34 ?_
      refine z_il1 eX2_margin_36 ?_
      refine z_iaddN eX2_margin_37 (by omega) (by omega) ?_
      refine zr_iN eX2_margin_38 zs13 (j := 8 * s + a) (by omega) (by omega) ?_
      refine z_al0 eX2_margin_39 ?_
      refine z_ga eX2_margin_40 fX2_21 zs50 (t := 4) rfl ?_
      refine z_ga eX2_margin_43 fX2_103 zs4 (t := 13) rfl ?_
      refine z_il6 eX2_margin_46 ?_
      refine z_il2 eX2_margin_48 ?_
      refine z_iaddN eX2_margin_49 (by omega) (by omega) ?_
      refine zr_iN eX2_margin_50 zs13 (j := 8 * s + b) (by omega) (by omega) ?_
      refine z_cge eX2_margin_51 rfl (fun c51 => ?_) (fun c51 => ?_)
      · refine z_al3 eX2_margin_61 ?_
        refine z_il5 eX2_margin_62 ?_
        refine zr_iN eX2_margin_64 hva (j := s) (by omega) (by omega) ?_
        rw [hw]
        refine z_inegN eX2_margin_65 (by omega) ?_
        refine z_iaddN eX2_margin_66 (by omega) (by omega) ?_
        refine z_is4 eX2_margin_67 zn2 ?_
        refine z_incN5 eX2_margin_69 zn0 (by omega) (by omega) ?_
        refine z_goto eX2_margin_72 rfl ?_
        refine z_fg6 ?_
        have e : sumN (morS D w a b) (s + 1) = sumN (morS D w a b) s + morS D w a b s := rfl
        rw [show morS D w a b s = - w s from if_neg (fun z => by have := e3.mp z; omega)] at e
        rw [← e]
        exact ih (r - 1) (by omega) (s + 1) (by omega)
      · refine z_al3 eX2_margin_54 ?_
        refine z_il5 eX2_margin_55 ?_
        refine zr_iN eX2_margin_57 hva (j := s) (by omega) (by omega) ?_
        rw [hw]
        refine z_goto eX2_margin_58 rfl ?_
        refine z_iaddN eX2_margin_66 (by omega) (by omega) ?_
        refine z_is4 eX2_margin_67 zn2 ?_
        refine z_incN5 eX2_margin_69 zn0 (by omega) (by omega) ?_
        refine z_goto eX2_margin_72 rfl ?_
        refine z_fg6 ?_
        have e : sumN (morS D w a b) (s + 1) = sumN (morS D w a b) s + morS D w a b s := rfl
        rw [show morS D w a b s = w s from if_pos (e3.mpr (by omega))] at e
        rw [← e]
        exact ih (r - 1) (by omega) (s + 1) (by omega)
theorem x_margin (h : zHp) (D w : Nat → Int) (P : Nat → Nat → Nat) (hb : dB D) (hp : pB D P) (hx : hX h D P) (hvb : vB D w) (va : Nat) (hva : zSH[va]? = some (20, 20)) (hw : h va = w) (a b : Nat) (ha : a < nN D) (hbb : b < nN D) (hab : ¬ a = b) : zCi mX2_margin 0 [zA 50, zI a, zI b, zA va] h (fun v h' => moreOf D w a b = v ∧ h = h') := by
  refine z_enter [zA 50, zI a, zI b, zA va, zU, zU, zU] (by decide +kernel) (Nat.le_of_ble_eq_true rfl) rfl (fun hra hrg => ?_)
  refine z_ki eX2_margin_0 ?_
  refine z_is4 eX2_margin_1 zn2 ?_
  refine z_ki eX2_margin_3 ?_
  refine z_is5 eX2_margin_4 zn0 ?_
  exact x_margin_l h D w P hb hp hx hvb va hva hw a b ha hbb hab _ 0 (Nat.zero_add _)
def atP (t : Nat → Int) (left : Nat) (least : Int) : Nat → Bool := fun k => left.testBit k && decide (least ≤ t k)
theorem and_p2 (s k : Nat) : s &&& 2 ^ k = if s.testBit k = true then 2 ^ k else 0 := by
  apply Nat.eq_of_testBit_eq
  intro i
  rw [Nat.testBit_and, Nat.testBit_two_pow]
  by_cases e : k = i
  · subst e
    cases s.testBit k <;> simp [Nat.testBit_two_pow]
  · cases s.testBit k <;> simp [Nat.testBit_two_pow, e]
theorem x_withAtLeast_l (h : zHp) (N left : Nat) (least : Int) (hN : h 4 0 = (N : Int)) (hN8 : N ≤ 8) (hl : left < 256) : ∀ (r k : Nat), k + r = N → zRW mX2_withAtLeast 0 (0, 0) 5 [zA 50, zI left, zI least, zI (pickN (atP (h 51) left least) k : Nat), zI k] [] 143 h (zqi (fun v h' => (pickN (atP (h 51) left least) N : Int) = v ∧ h = h')) := by
  intro r
  induction r using Nat.strongRecOn with
  | ind r ih =>
    intro k hk
    have hp : pickN (atP (h 51) left least) k < 256 := pick_31 _ (by omega)
    refine z_il4 eX2_withAtLeast_5 ?_
    refine z_al0 eX2_withAtLeast_7 ?_
    refine z_ga eX2_withAtLeast_8 fX2_21 zs50 (t := 4) rfl ?_
    refine z_gi eX2_withAtLeast_11 fX2_39 zs4 ?_
    refine z_cge eX2_withAtLeast_14 rfl (fun c14 => ?_) (fun c14 => ?_)
    · refine z_il3 eX2_withAtLeast_47 ?_
      refine ze_i eX2_withAtLeast_48 rfl ?_
      have e : k = N := by omega
      subst e
      exact ⟨rfl, rfl⟩
    · refine z_il3 eX2_withAtLeast_17 ?_
      refine z_al0 eX2_withAtLeast_18 ?_
      refine z_ga eX2_withAtLeast_19 fX2_9 zs50 (t := 51) rfl ?_
      refine z_il4 eX2_withAtLeast_22 ?_
      refine zr_iN eX2_withAtLeast_24 zs51 (j := k) (by omega) (by omega) ?_
      refine z_il2 eX2_withAtLeast_25 ?_
      refine z_clt eX2_withAtLeast_26 rfl (fun c26 => ?_) (fun c26 => ?_)
      · refine z_ki eX2_withAtLeast_38 ?_
        refine z_ior eX2_withAtLeast_39 ?_
        refine z_is3 eX2_withAtLeast_40 zn0 ?_
        refine z_incN4 eX2_withAtLeast_41 zn0 (by omega) (by omega) ?_
        refine z_goto eX2_withAtLeast_44 rfl ?_
        have e : pickN (atP (h 51) left least) (k + 1) = if atP (h 51) left least k then pickN (atP (h 51) left least) k ||| 2 ^ k else pickN (atP (h 51) left least) k := rfl
        have z1 : ¬ least ≤ h 51 k := by omega
        rw [if_neg (by simp [atP, z1])] at e
        rw [show (0 : Int) = ((0 : Nat) : Int) from rfl, kb_or (by omega) (by omega), Nat.or_zero, ← e]
        exact ih (r - 1) (by omega) (k + 1) (by omega)
      · refine z_il1 eX2_withAtLeast_29 ?_
        refine z_ki eX2_withAtLeast_30 ?_
        refine z_il4 eX2_withAtLeast_31 ?_
        refine z_ishl eX2_withAtLeast_33 ?_
        refine z_iand eX2_withAtLeast_34 ?_
        refine z_goto eX2_withAtLeast_35 rfl ?_
        refine z_ior eX2_withAtLeast_39 ?_
        refine z_is3 eX2_withAtLeast_40 zn0 ?_
        refine z_incN4 eX2_withAtLeast_41 zn0 (by omega) (by omega) ?_
        refine z_goto eX2_withAtLeast_44 rfl ?_
        have e : pickN (atP (h 51) left least) (k + 1) = if atP (h 51) left least k then pickN (atP (h 51) left least) k ||| 2 ^ k else pickN (atP (h 51) left least) k := rfl
        have z1 : least ≤ h 51 k := by omega
        rw [kb_shl1 (by omega), kb_and (by omega), and_p2]
        by_cases z2 : left.testBit k = true
        · rw [if_pos (by simp [atP, z1, z2])] at e
          rw [if_pos z2, kb_or (by omega) (p2_31 (by omega)), ← e]
          exact ih (r - 1) (by omega) (k + 1) (by omega)
        rw [if_neg (by simp [atP, z2])] at e
        rw [if_neg z2, kb_or (by omega) (by omega), Nat.or_zero, ← e]
        exact ih (r - 1) (by omega) (k + 1) (by omega)
theorem x_withAtLeast (h : zHp) (N left : Nat) (least : Int) (hN : h 4 0 = (N : Int)) (hN8 : N ≤ 8) (hl : left < 256) : zCi mX2_withAtLeast 0 [zA 50, zI left, zI least] h (fun v h' => (pickN (atP (h 51) left least) N : Int) = v ∧ h = h') := by
  refine z_enter [zA 50, zI left, zI least, zU, zU] (by decide +kernel) (Nat.le_of_ble_eq_true rfl) rfl (fun hra hrg => ?_)
  refine z_ki eX2_withAtLeast_0 ?_
  refine z_is3 eX2_withAtLeast_1 zn0 ?_
  refine z_ki eX2_withAtLeast_2 ?_
  refine z_is4 eX2_withAtLeast_3 zn0 ?_
  exact x_withAtLeast_l h N left least hN hN8 hl _ 0 (Nat.zero_add _)
