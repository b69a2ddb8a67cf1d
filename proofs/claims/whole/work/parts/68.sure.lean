-- game: the reference (written by wip/tools/specG3.py)
/-- the reference's memory is right, and what it asks for stands in its fields -/
def sG (D : Nat → Int) (a : Int) (mn ot E : Nat) (g : zHp) : Prop := mW g D (inOf D) ∧ (g 117 64 = a ∧ g 117 65 = (mn : Int) ∧ g 117 66 = (ot : Int) ∧ g 117 67 = (E : Int)) ∧ ∀ t s : Nat, t < E → s < 2 ^ nN D → g 139 (256 * t + s) = 0 ∨ (g 139 (256 * t + s) = 1 ∧ gmF D a mn ot (E - t) s = true) ∨ (g 139 (256 * t + s) = 2 ∧ gmF D a mn ot (E - t) s = false)
theorem sG.fr {D : Nat → Int} {a : Int} {mn ot E : Nat} {g f : zHp} (H : sG D a mn ot E g) (F : zFr 125 g f) : sG D a mn ot E f := by
  obtain ⟨h1, h2, h3⟩ := H
  refine ⟨h1.fr F, ?_, ?_⟩
  · rw [F 117 (by decide)]; exact h2
  · rw [F 139 (by decide)]; exact h3
theorem sG.op {D : Nat → Int} {a : Int} {mn ot E : Nat} {g : zHp} (H : sG D a mn ot E g) {i : Nat} (hi : i = 61 ∨ i = 62) (v : Int) : sG D a mn ot E (zup g 117 i v) := by
  obtain ⟨⟨m1, m2, m3⟩, ⟨h2, h3, h4, h5⟩, h6⟩ := H
  refine ⟨⟨by rw [zup_off (by decide)]; exact m1, fun s hs => by rw [zup_off (by decide)]; exact m2 s hs, by rw [zup_ne (by omega)]; exact m3⟩, ⟨by rw [zup_ne (by omega)]; exact h2, by rw [zup_ne (by omega)]; exact h3, by rw [zup_ne (by omega)]; exact h4, by rw [zup_ne (by omega)]; exact h5⟩, ?_⟩
  rw [zup_off (by decide)]
  exact h6
theorem sG.mem {D : Nat → Int} {a : Int} {mn ot E : Nat} {g : zHp} (H : sG D a mn ot E g) (h256 : 2 ^ nN D ≤ 256) {t s : Nat} (hs : s < 2 ^ nN D) {v : Int} (hv : (v = 1 ∧ gmF D a mn ot (E - t) s = true) ∨ (v = 2 ∧ gmF D a mn ot (E - t) s = false)) : sG D a mn ot E (zup g 139 (256 * t + s) v) := by
  obtain ⟨⟨m1, m2, m3⟩, h2, h6⟩ := H
  refine ⟨⟨by rw [zup_off (by decide)]; exact m1, fun s hs => by rw [zup_off (by decide)]; exact m2 s hs, by rw [zup_off (by decide)]; exact m3⟩, by rw [zup_off (by decide)]; exact h2, fun t' s' ht' hs' => ?_⟩
  by_cases e : 256 * t' + s' = 256 * t + s
  · have e1 : t' = t := by omega
    have e2 : s' = s := by omega
    subst e1
    subst e2
    rw [zup_at]
    exact Or.inr hv
  · rw [zup_ne (by omega)]
    exact h6 t' s' ht' hs'
theorem zrem2 : ∀ t : Nat, t < 7 → zrem (t : Int) 2 = ((t % 2 : Nat) : Int) := by decide +kernel
def mvF (D : Nat → Int) (a : Int) (mn ot l : Nat) (mi : Int) (set k : Nat) : Bool := if mi = 1 then orF mn (gmF D a mn ot l) set k else anF ot (gmF D a mn ot l) set k
theorem r_sure0 (D : Nat → Int) (hb : dB D) (a : Int) (mn ot E : Nat) (hmn : mn < 256) (hot : ot < 256) (hE6 : E ≤ 6) (hE2 : E % 2 = 0) (set : Nat) (hset : set < 2 ^ nN D) (h : zHp) (Hs : sG D a mn ot E h) : zCi mX12_sure (7 + 0) [zA 117, zI E, zI set] h (fun v h' => bI (gmF D a mn ot 0 set) = v ∧ sG D a mn ot E h' ∧ zMf h h') := by
  refine z_enter [zA 117, zI E, zI set, zU, zU, zU, zU] (by decide +kernel) (Nat.le_of_ble_eq_true rfl) rfl (fun hra hrg => ?_)
  have h5 := Hs.2.1.2.2.2
  refine z_il1 eX12_sure_0 ?_
  refine z_al0 eX12_sure_1 ?_
  refine z_gi eX12_sure_2 fX12_423 zs117 ?_
  refine z_cne eX12_sure_5 rfl (fun c5 => ?_) (fun c5 => ?_)
  · exact absurd h5.symm c5
  · refine z_al0 eX12_sure_8 ?_
    refine z_il2 eX12_sure_9 ?_
    refine zc_vi1 eX12_sure_10 lX12_323 tX12_winner zs117 (by omega) (Nat.le_of_ble_eq_true rfl) (r_winM Hs.1 hb (inOf_b hb) set hset) ?_
    rintro _ g ⟨rfl, hfr⟩ -
    rw [show winW D (inOf D) set = winNow D set from rfl]
    have h4 : g 117 64 = a := by rw [hfr 117 (by decide)]; exact Hs.2.1.1
    refine z_al0 eX12_sure_13 ?_
    refine z_gi eX12_sure_14 fX12_426 zs117 ?_
    refine z_cne eX12_sure_17 rfl (fun c17 => ?_) (fun c17 => ?_)
    · refine z_ki eX12_sure_24 ?_
      refine ze_z eX12_sure_25 rfl (by first | exact Or.inl rfl | exact Or.inr rfl) ?_
      refine ⟨?_, Hs.fr hfr, zMf.rf.fr hfr (by decide) (fun _ => rfl)⟩
      rw [gmF, decide_eq_false (by omega)]; rfl
    · refine z_ki eX12_sure_20 ?_
      refine z_goto eX12_sure_21 rfl ?_
      refine ze_z eX12_sure_25 rfl (by first | exact Or.inl rfl | exact Or.inr rfl) ?_
      refine ⟨?_, Hs.fr hfr, zMf.rf.fr hfr (by decide) (fun _ => rfl)⟩
      rw [gmF, decide_eq_true (by omega)]; rfl
theorem r_sure_l (D : Nat → Int) (hb : dB D) (a : Int) (mn ot E : Nat) (hmn : mn < 256) (hot : ot < 256) (hE6 : E ≤ 6) (hE2 : E % 2 = 0) (l : Nat) (IH : ∀ (t set : Nat) (h : zHp), t + l = E → set < 2 ^ nN D → sG D a mn ot E h → zCi mX12_sure (7 + l) [zA 117, zI t, zI set] h (fun v h' => bI (gmF D a mn ot l set) = v ∧ sG D a mn ot E h' ∧ zMf h h')) (t : Nat) (ht : t + (l + 1) = E) (set : Nat) (hset : set < 2 ^ nN D) (h : zHp) (mi : Int) (hmi : mi = 1 ∧ l % 2 = 1 ∨ mi = 0 ∧ ¬ l % 2 = 1) : ∀ (r k : Nat) (g : zHp), k + r = nN D → sG D a mn ot E g → zMf h g → zRW mX12_sure (7 + (l + 1)) (0, 0) 85 [zA 117, zI t, zI set, zI (256 * (t : Int) + set), zI mi, zI (bI (mvF D a mn ot l mi set k)), zI k] [] 143 g (zqi (fun v h' => bI (gmF D a mn ot (l + 1) set) = v ∧ sG D a mn ot E h' ∧ zMf h h')) := by
  have hN := nN_eq hb
  have hN8 := nN_le hb
  have h256 := p2le hN8
  intro r
  induction r using Nat.strongRecOn with
  | ind r ih =>
    intro k g hk Hs hmf
    have d0 : g 122 0 = (nN D : Int) := by rw [Hs.1.1]; exact hN
    have h01 := bI_01 (mvF D a mn ot l mi set k)
    have hmv : mvF D a mn ot l mi set k = if mi = 1 then orF mn (gmF D a mn ot l) set k else anF ot (gmF D a mn ot l) set k := rfl
    have hmv1 : mvF D a mn ot l mi set (k + 1) = if mi = 1 then orF mn (gmF D a mn ot l) set (k + 1) else anF ot (gmF D a mn ot l) set (k + 1) := rfl
    have hfin : mvF D a mn ot l mi set (nN D) = gmF D a mn ot (l + 1) set := by
      unfold mvF
      rw [gmF]
      rcases hmi with q | q
      · rw [if_pos q.1, if_pos q.2]
      · rw [if_neg (by omega), if_neg q.2]
    refine z_il6 eX12_sure_85 ?_
    refine z_al0 eX12_sure_87 ?_
    refine z_ga eX12_sure_88 fX12_35 zs117 (t := 122) rfl ?_
    refine z_ki eX12_sure_91 ?_
    refine zr_iN eX12_sure_92 zs122 (j := 0) (by omega) (by omega) ?_
    refine z_cge eX12_sure_93 rfl (fun c93 => ?_) (fun c93 => ?_)
    · have e : k = nN D := by omega
      have hres : mvF D a mn ot l mi set k = gmF D a mn ot (l + 1) set := by rw [e]; exact hfin
      refine z_al0 eX12_sure_149 ?_
      refine z_ga eX12_sure_150 fX12_89 zs117 (t := 139) rfl ?_
      refine z_il3 eX12_sure_153 ?_
      refine z_il5 eX12_sure_154 ?_
      refine z_ieq eX12_sure_156 rfl (fun c156 => ?_) (fun c156 => ?_)
      · refine z_ki eX12_sure_163 ?_
        refine zs_iN eX12_sure_164 zs139 (j := 256 * t + set) (by omega) (by omega) ?_
        refine z_il5 eX12_sure_165 ?_
        refine ze_z eX12_sure_167 rfl (by exact bI_01 _) ?_
        rw [hres] at c156 ⊢
        refine ⟨rfl, Hs.mem h256 hset (t := t) ?_, hmf.up (by omega) (by omega) rfl⟩
        rw [show E - t = l + 1 by omega]
        exact Or.inr ⟨rfl, bI_0 c156⟩
      · refine z_ki eX12_sure_159 ?_
        refine z_goto eX12_sure_160 rfl ?_
        refine zs_iN eX12_sure_164 zs139 (j := 256 * t + set) (by omega) (by omega) ?_
        refine z_il5 eX12_sure_165 ?_
        refine ze_z eX12_sure_167 rfl (by exact bI_01 _) ?_
        rw [hres] at c156 ⊢
        refine ⟨rfl, Hs.mem h256 hset (t := t) ?_, hmf.up (by omega) (by omega) rfl⟩
        rw [show E - t = l + 1 by omega]
        exact Or.inl ⟨rfl, bI_1 c156⟩
    · refine z_il5 eX12_sure_96 ?_
      refine z_il4 eX12_sure_98 ?_
      refine z_ceq eX12_sure_100 rfl (fun c100 => ?_) (fun c100 => ?_)
      · have hres : mvF D a mn ot l mi set k = gmF D a mn ot (l + 1) set := by
          rw [← hfin]
          rcases hmi with q | q
          · have y : mvF D a mn ot l mi set k = true := bI_1 (by omega)
            rw [y]
            unfold mvF at y ⊢
            rw [if_pos q.1] at y ⊢
            exact (orF_up y _ (by omega)).symm
          · have y : mvF D a mn ot l mi set k = false := bI_0 (by omega)
            rw [y]
            unfold mvF at y ⊢
            rw [if_neg (by omega)] at y ⊢
            exact (anF_up y _ (by omega)).symm
        refine z_al0 eX12_sure_149 ?_
        refine z_ga eX12_sure_150 fX12_89 zs117 (t := 139) rfl ?_
        refine z_il3 eX12_sure_153 ?_
        refine z_il5 eX12_sure_154 ?_
        refine z_ieq eX12_sure_156 rfl (fun c156 => ?_) (fun c156 => ?_)
        · refine z_ki eX12_sure_163 ?_
          refine zs_iN eX12_sure_164 zs139 (j := 256 * t + set) (by omega) (by omega) ?_
          refine z_il5 eX12_sure_165 ?_
          refine ze_z eX12_sure_167 rfl (by exact bI_01 _) ?_
          rw [hres] at c156 ⊢
          refine ⟨rfl, Hs.mem h256 hset (t := t) ?_, hmf.up (by omega) (by omega) rfl⟩
          rw [show E - t = l + 1 by omega]
          exact Or.inr ⟨rfl, bI_0 c156⟩
        · refine z_ki eX12_sure_159 ?_
          refine z_goto eX12_sure_160 rfl ?_
          refine zs_iN eX12_sure_164 zs139 (j := 256 * t + set) (by omega) (by omega) ?_
          refine z_il5 eX12_sure_165 ?_
          refine ze_z eX12_sure_167 rfl (by exact bI_01 _) ?_
          rw [hres] at c156 ⊢
          refine ⟨rfl, Hs.mem h256 hset (t := t) ?_, hmf.up (by omega) (by omega) rfl⟩
          rw [show E - t = l + 1 by omega]
          exact Or.inl ⟨rfl, bI_1 c156⟩
      · have hp2 := Nat.pow_le_pow_right (n := 2) (by omega) (show k ≤ 7 by omega)
        have hxl := xor_p2_lt hset (show k < nN D by omega)
        refine z_il4 eX12_sure_103 ?_
        refine z_ieq eX12_sure_105 rfl (fun c105 => ?_) (fun c105 => ?_)
        · refine z_al0 eX12_sure_115 ?_
          refine z_gi eX12_sure_116 fX12_435 zs117 ?_
          rw [Hs.2.1.2.2.1]
          refine z_il6 eX12_sure_119 ?_
          refine z_ishr eX12_sure_121 ?_
          refine z_ki eX12_sure_122 ?_
          refine z_iand eX12_sure_123 ?_
          rw [kb_bit (by omega) (by omega)]
          refine z_ki eX12_sure_124 ?_
          refine z_cne eX12_sure_125 rfl (fun c125 => ?_) (fun c125 => ?_)
          · refine z_incN6 eX12_sure_143 zn0 (by omega) (by omega) ?_
            refine z_goto eX12_sure_146 rfl ?_
            have tb : ¬ ot.testBit k = true := fun z => by rw [if_pos z] at c125; exact c125 rfl
            have em : ¬ mi = 1 := by omega
            rw [if_neg em] at hmv hmv1
            have ee : mvF D a mn ot l mi set (k + 1) = mvF D a mn ot l mi set k := by rw [hmv, hmv1, anF, if_neg tb]
            have qq := ih (r - 1) (by omega) (k + 1) g (by omega) Hs hmf
            rw [ee] at qq
            exact qq
          · refine z_al0 eX12_sure_128 ?_
            refine z_il1 eX12_sure_129 ?_
            refine z_ki eX12_sure_130 ?_
            refine z_iaddN eX12_sure_131 (by omega) (by omega) ?_
            refine z_il2 eX12_sure_132 ?_
            refine z_ki eX12_sure_133 ?_
            refine z_il6 eX12_sure_134 ?_
            refine z_ishl eX12_sure_136 ?_
            refine z_ixor eX12_sure_137 ?_
            rw [kb_shl1 (by omega), kb_xor (by omega) (by omega)]
            rw [show (t : Int) + 1 = ((t + 1 : Nat) : Int) by omega]
            refine zc_vi2 eX12_sure_138 lX12_429 tX12_sure zs117 (by omega) (Nat.le_of_ble_eq_true rfl) (IH (t + 1) (set ^^^ 2 ^ k) g (by omega) hxl Hs) ?_
            rintro _ g2 ⟨rfl, Hs2, hm2⟩ -
            refine z_is5 eX12_sure_141 zn0 ?_
            refine z_incN6 eX12_sure_143 zn0 (by omega) (by omega) ?_
            refine z_goto eX12_sure_146 rfl ?_
            have tb : ot.testBit k = true := Classical.byContradiction (fun z => by rw [if_neg z] at c125; omega)
            have em : ¬ mi = 1 := by omega
            rw [if_neg em] at hmv hmv1
            have y : mvF D a mn ot l mi set k = true := bI_1 (by omega)
            rw [hmv] at y
            have ee : mvF D a mn ot l mi set (k + 1) = gmF D a mn ot l (set ^^^ 2 ^ k) := by rw [hmv1, anF, if_pos tb, y, Bool.true_and]
            have qq := ih (r - 1) (by omega) (k + 1) g2 (by omega) Hs2 (hmf.tr hm2)
            rw [ee] at qq
            exact qq
        · refine z_al0 eX12_sure_108 ?_
          refine z_gi eX12_sure_109 fX12_432 zs117 ?_
          refine z_goto eX12_sure_112 rfl ?_
          rw [Hs.2.1.2.1]
          refine z_il6 eX12_sure_119 ?_
          refine z_ishr eX12_sure_121 ?_
          refine z_ki eX12_sure_122 ?_
          refine z_iand eX12_sure_123 ?_
          rw [kb_bit (by omega) (by omega)]
          refine z_ki eX12_sure_124 ?_
          refine z_cne eX12_sure_125 rfl (fun c125 => ?_) (fun c125 => ?_)
          · refine z_incN6 eX12_sure_143 zn0 (by omega) (by omega) ?_
            refine z_goto eX12_sure_146 rfl ?_
            have tb : ¬ mn.testBit k = true := fun z => by rw [if_pos z] at c125; exact c125 rfl
            have em : mi = 1 := by omega
            rw [if_pos em] at hmv hmv1
            have ee : mvF D a mn ot l mi set (k + 1) = mvF D a mn ot l mi set k := by rw [hmv, hmv1, orF, if_neg tb]
            have qq := ih (r - 1) (by omega) (k + 1) g (by omega) Hs hmf
            rw [ee] at qq
            exact qq
          · refine z_al0 eX12_sure_128 ?_
            refine z_il1 eX12_sure_129 ?_
            refine z_ki eX12_sure_130 ?_
            refine z_iaddN eX12_sure_131 (by omega) (by omega) ?_
            refine z_il2 eX12_sure_132 ?_
            refine z_ki eX12_sure_133 ?_
            refine z_il6 eX12_sure_134 ?_
            refine z_ishl eX12_sure_136 ?_
            refine z_ixor eX12_sure_137 ?_
            rw [kb_shl1 (by omega), kb_xor (by omega) (by omega)]
            rw [show (t : Int) + 1 = ((t + 1 : Nat) : Int) by omega]
            refine zc_vi2 eX12_sure_138 lX12_429 tX12_sure zs117 (by omega) (Nat.le_of_ble_eq_true rfl) (IH (t + 1) (set ^^^ 2 ^ k) g (by omega) hxl Hs) ?_
            rintro _ g2 ⟨rfl, Hs2, hm2⟩ -
            refine z_is5 eX12_sure_141 zn0 ?_
            refine z_incN6 eX12_sure_143 zn0 (by omega) (by omega) ?_
            refine z_goto eX12_sure_146 rfl ?_
            have tb : mn.testBit k = true := Classical.byContradiction (fun z => by rw [if_neg z] at c125; omega)
            have em : mi = 1 := by omega
            rw [if_pos em] at hmv hmv1
            have y : mvF D a mn ot l mi set k = false := bI_0 (by omega)
            rw [hmv] at y
            have ee : mvF D a mn ot l mi set (k + 1) = gmF D a mn ot l (set ^^^ 2 ^ k) := by rw [hmv1, orF, if_pos tb, y, Bool.false_or]
            have qq := ih (r - 1) (by omega) (k + 1) g2 (by omega) Hs2 (hmf.tr hm2)
            rw [ee] at qq
            exact qq
theorem r_sureS (D : Nat → Int) (hb : dB D) (a : Int) (mn ot E : Nat) (hmn : mn < 256) (hot : ot < 256) (hE6 : E ≤ 6) (hE2 : E % 2 = 0) (l : Nat) (IH : ∀ (t set : Nat) (h : zHp), t + l = E → set < 2 ^ nN D → sG D a mn ot E h → zCi mX12_sure (7 + l) [zA 117, zI t, zI set] h (fun v h' => bI (gmF D a mn ot l set) = v ∧ sG D a mn ot E h' ∧ zMf h h')) (t : Nat) (ht : t + (l + 1) = E) (set : Nat) (hset : set < 2 ^ nN D) (h : zHp) (Hs : sG D a mn ot E h) : zCi mX12_sure (7 + (l + 1)) [zA 117, zI t, zI set] h (fun v h' => bI (gmF D a mn ot (l + 1) set) = v ∧ sG D a mn ot E h' ∧ zMf h h') := by
  refine z_enter [zA 117, zI t, zI set, zU, zU, zU, zU] (by decide +kernel) (Nat.le_of_ble_eq_true rfl) rfl (fun hra hrg => ?_)
  have h5 := Hs.2.1.2.2.2
  have hN8 := nN_le hb
  have h256 := p2le hN8
  have hme := Hs.2.2 t set (by omega) hset
  rw [show E - t = l + 1 by omega] at hme
  refine z_il1 eX12_sure_0 ?_
  refine z_al0 eX12_sure_1 ?_
  refine z_gi eX12_sure_2 fX12_423 zs117 ?_
  refine z_cne eX12_sure_5 rfl (fun c5 => ?_) (fun c5 => ?_)
  · refine z_ki eX12_sure_26 ?_
    refine z_il1 eX12_sure_29 ?_
    refine z_imulN eX12_sure_30 (by omega) (by omega) ?_
    refine z_il2 eX12_sure_31 ?_
    refine z_iaddN eX12_sure_32 (by omega) (by omega) ?_
    refine z_is3 eX12_sure_33 zn0 ?_
    refine z_al0 eX12_sure_34 ?_
    refine z_ga eX12_sure_35 fX12_89 zs117 (t := 139) rfl ?_
    refine z_il3 eX12_sure_38 ?_
    refine zr_iN eX12_sure_39 zs139 (j := 256 * t + set) (by omega) (by omega) ?_
    refine z_ile eX12_sure_40 rfl (fun c40 => ?_) (fun c40 => ?_)
    · refine z_il1 eX12_sure_59 ?_
      refine z_ki eX12_sure_60 ?_
      refine z_irem eX12_sure_61 (by decide) ?_
      rw [zrem2 t (by omega)]
      refine z_ine eX12_sure_62 rfl (fun c62 => ?_) (fun c62 => ?_)
      · refine z_ki eX12_sure_69 ?_
        refine z_is4 eX12_sure_70 zn0 ?_
        refine z_al0 eX12_sure_72 ?_
        refine z_il1 eX12_sure_73 ?_
        refine z_ki eX12_sure_74 ?_
        refine z_iaddN eX12_sure_75 (by omega) (by omega) ?_
        refine z_il2 eX12_sure_76 ?_
        rw [show (t : Int) + 1 = ((t + 1 : Nat) : Int) by omega]
        refine zc_vi2 eX12_sure_77 lX12_429 tX12_sure zs117 (by omega) (Nat.le_of_ble_eq_true rfl) (IH (t + 1) set h (by omega) hset Hs) ?_
        rintro _ g2 ⟨rfl, Hs2, hm2⟩ -
        refine z_is5 eX12_sure_80 zn0 ?_
        refine z_ki eX12_sure_82 ?_
        refine z_is6 eX12_sure_83 zn0 ?_
        rw [show gmF D a mn ot l set = mvF D a mn ot l 0 set 0 by unfold mvF; rw [orF, anF]; split <;> rfl]
        exact r_sure_l D hb a mn ot E hmn hot hE6 hE2 l IH t ht set hset h 0 (by omega) (nN D) 0 g2 (Nat.zero_add _) Hs2 hm2
      · refine z_ki eX12_sure_65 ?_
        refine z_goto eX12_sure_66 rfl ?_
        refine z_is4 eX12_sure_70 zn0 ?_
        refine z_al0 eX12_sure_72 ?_
        refine z_il1 eX12_sure_73 ?_
        refine z_ki eX12_sure_74 ?_
        refine z_iaddN eX12_sure_75 (by omega) (by omega) ?_
        refine z_il2 eX12_sure_76 ?_
        rw [show (t : Int) + 1 = ((t + 1 : Nat) : Int) by omega]
        refine zc_vi2 eX12_sure_77 lX12_429 tX12_sure zs117 (by omega) (Nat.le_of_ble_eq_true rfl) (IH (t + 1) set h (by omega) hset Hs) ?_
        rintro _ g2 ⟨rfl, Hs2, hm2⟩ -
        refine z_is5 eX12_sure_80 zn0 ?_
        refine z_ki eX12_sure_82 ?_
        refine z_is6 eX12_sure_83 zn0 ?_
        rw [show gmF D a mn ot l set = mvF D a mn ot l 1 set 0 by unfold mvF; rw [orF, anF]; split <;> rfl]
        exact r_sure_l D hb a mn ot E hmn hot hE6 hE2 l IH t ht set hset h 1 (by omega) (nN D) 0 g2 (Nat.zero_add _) Hs2 hm2
    · refine z_al0 eX12_sure_43 ?_
      refine z_ga eX12_sure_44 fX12_89 zs117 (t := 139) rfl ?_
      refine z_il3 eX12_sure_47 ?_
      refine zr_iN eX12_sure_48 zs139 (j := 256 * t + set) (by omega) (by omega) ?_
      refine z_ki eX12_sure_49 ?_
      refine z_cne eX12_sure_50 rfl (fun c50 => ?_) (fun c50 => ?_)
      · refine z_ki eX12_sure_57 ?_
        refine ze_z eX12_sure_58 rfl (by first | exact Or.inl rfl | exact Or.inr rfl) ?_
        refine ⟨?_, Hs, zMf.rf⟩
        rcases hme with z | z | z
        · omega
        · omega
        · rw [z.2]; rfl
      · refine z_ki eX12_sure_53 ?_
        refine z_goto eX12_sure_54 rfl ?_
        refine ze_z eX12_sure_58 rfl (by first | exact Or.inl rfl | exact Or.inr rfl) ?_
        refine ⟨?_, Hs, zMf.rf⟩
        rcases hme with z | z | z
        · omega
        · rw [z.2]; rfl
        · omega
  · exfalso; omega
theorem r_sure (D : Nat → Int) (hb : dB D) (a : Int) (mn ot E : Nat) (hmn : mn < 256) (hot : ot < 256) (hE6 : E ≤ 6) (hE2 : E % 2 = 0) : ∀ (l t set : Nat) (h : zHp), t + l = E → set < 2 ^ nN D → sG D a mn ot E h → zCi mX12_sure (7 + l) [zA 117, zI t, zI set] h (fun v h' => bI (gmF D a mn ot l set) = v ∧ sG D a mn ot E h' ∧ zMf h h') := by
  intro l
  induction l with
  | zero =>
    intro t set h ht hs H
    have e : t = E := by omega
    subst e
    exact r_sure0 D hb a mn ot t hmn hot hE6 hE2 set hs h H
  | succ l ih =>
    intro t set h ht hs H
    exact r_sureS D hb a mn ot E hmn hot hE6 hE2 l ih t ht set hs h H
theorem r_sure13 (D : Nat → Int) (hb : dB D) (a : Int) (mn ot E : Nat) (hmn : mn < 256) (hot : ot < 256) (hE6 : E ≤ 6) (hE2 : E % 2 = 0) (l t set : Nat) (h : zHp) (ht : t + l = E) (hs : set < 2 ^ nN D) (H : sG D a mn ot E h) : zCi mX12_sure 13 [zA 117, zI t, zI set] h (fun v h' => bI (gmF D a mn ot l set) = v ∧ sG D a mn ot E h' ∧ zMf h h') := (r_sure D hb a mn ot E hmn hot hE6 hE2 l t set h ht hs H).mono (by omega)
