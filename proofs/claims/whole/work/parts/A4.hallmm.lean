-- the reference's hall (written by wip/tools/specZ4.py)
theorem zRW.wkn {M : zM} {k : Nat} {b : Nat × Nat} {pc : Nat} {ls st : List zV} {n : Nat} {h : zHp} {Q Q2 : Option zV → Nat → zHp → Prop} (H : zRW M k b pc ls st n h Q) (f : ∀ r n h, Q r n h → Q2 r n h) : zRW M k b pc ls st n h Q2 := by
  intro G d mc ms p l e s m args below meth c Hh locs cells slots lr a1 a2 a3 a4 a5 a6 a7 a8 a9 T hT X
  obtain ⟨t, y, ⟨o, b1, b2, ⟨⟨r, n2, h4, q1, q2, q3, q4⟩, q5⟩, q6⟩⟩ := H G d mc ms p l e s m args below meth c Hh locs cells slots lr a1 a2 a3 a4 a5 a6 a7 a8 a9 T hT X
  exact ⟨t, y, ⟨o, b1, b2, ⟨⟨r, n2, h4, q1, q2, f _ _ _ q3, q4⟩, q5⟩, q6⟩⟩
theorem z_wki {M : zM} {k : Nat} {b : Nat × Nat} {pc : Nat} {ls st : List zV} {n : Nat} {h : zHp} {Q Q2 : Int → zHp → Prop} (H : zRW M k b pc ls st n h (zqi Q)) (f : ∀ v h, Q v h → Q2 v h) : zRW M k b pc ls st n h (zqi Q2) := H.wkn (fun r n h2 q => ⟨q.1, q.2.choose, q.2.choose_spec.1, f _ _ q.2.choose_spec.2⟩)
theorem z_wkv {M : zM} {k : Nat} {b : Nat × Nat} {pc : Nat} {ls st : List zV} {n : Nat} {h : zHp} {Q Q2 : zHp → Prop} (H : zRW M k b pc ls st n h (zqv Q)) (f : ∀ h, Q h → Q2 h) : zRW M k b pc ls st n h (zqv Q2) := H.wkn (fun r n h2 q => ⟨q.1, q.2.1, f _ q.2.2⟩)
/-- the reference has begun with a text of L bytes -/
def opP (h : zHp) (B : Nat → Int) (L : Nat) (g : zHp) : Prop := (∀ c : Nat, ¬ c = 117 → g c = h c) ∧ (∀ i : Nat, ¬ i = 8 → ¬ i = 9 → ¬ (12 ≤ i ∧ i ≤ 19) → g 117 i = h 117 i) ∧ g 117 8 = 0 ∧ g 117 9 = (L : Int) ∧ g 117 12 = 0 ∧ mTk B L 0 g
theorem r_opensN (h : zHp) (n m : Int) (hc : n < 0 ∨ h 117 8 < n ∨ m < n) : zCi mX12_opens 2 [zA 117, zI n, zI m] h (fun v h' => (0 : Int) = v ∧ zup h 117 0 5 = h') := by
  refine z_enter [zA 117, zI n, zI m] (by decide +kernel) (Nat.le_of_ble_eq_true rfl) rfl (fun hra hrg => ?_)
  refine z_il1 eX12_opens_0 ?_
  refine z_ilt eX12_opens_1 rfl (fun c1 => ?_) (fun c1 => ?_)
  · refine z_al0 eX12_opens_17 ?_
    refine z_ki eX12_opens_18 ?_
    refine zc_vi1 eX12_opens_19 lX12_113 tX12_no zs117 (by decide) (Nat.le_of_ble_eq_true rfl) (r_no _ _) ?_
    rintro _ _ ⟨rfl, rfl⟩ -
    refine ze_z eX12_opens_22 rfl (by first | exact Or.inl rfl | exact Or.inr rfl) ?_
    exact ⟨rfl, rfl⟩
  · refine z_il1 eX12_opens_4 ?_
    refine z_al0 eX12_opens_5 ?_
    refine z_gi eX12_opens_6 fX12_217 zs117 ?_
    refine z_cgt eX12_opens_9 rfl (fun c9 => ?_) (fun c9 => ?_)
    · refine z_al0 eX12_opens_17 ?_
      refine z_ki eX12_opens_18 ?_
      refine zc_vi1 eX12_opens_19 lX12_113 tX12_no zs117 (by decide) (Nat.le_of_ble_eq_true rfl) (r_no _ _) ?_
      rintro _ _ ⟨rfl, rfl⟩ -
      refine ze_z eX12_opens_22 rfl (by first | exact Or.inl rfl | exact Or.inr rfl) ?_
      exact ⟨rfl, rfl⟩
    · refine z_il1 eX12_opens_12 ?_
      refine z_il2 eX12_opens_13 ?_
      refine z_cle eX12_opens_14 rfl (fun c14 => ?_) (fun c14 => ?_)
      · omega
      · refine z_al0 eX12_opens_17 ?_
        refine z_ki eX12_opens_18 ?_
        refine zc_vi1 eX12_opens_19 lX12_113 tX12_no zs117 (by decide) (Nat.le_of_ble_eq_true rfl) (r_no _ _) ?_
        rintro _ _ ⟨rfl, rfl⟩ -
        refine ze_z eX12_opens_22 rfl (by first | exact Or.inl rfl | exact Or.inr rfl) ?_
        exact ⟨rfl, rfl⟩
theorem r_opensY (h : zHp) (B : Nat → Int) (L : Nat) (m : Int) (hL : (L : Int) ≤ h 117 8) (hm : (L : Int) ≤ m) (h700 : L ≤ 700) (hBy : ∀ i : Nat, i < L → h 121 i = B i ∧ -128 ≤ B i ∧ B i ≤ 127) : zCi mX12_opens 2 [zA 117, zI L, zI m] h (fun v h' => (1 : Int) = v ∧ opP h B L h') := by
  refine z_enter [zA 117, zI L, zI m] (by decide +kernel) (Nat.le_of_ble_eq_true rfl) rfl (fun hra hrg => ?_)
  refine z_il1 eX12_opens_0 ?_
  refine z_ilt eX12_opens_1 rfl (fun c1 => ?_) (fun c1 => ?_)
  · omega
  · refine z_il1 eX12_opens_4 ?_
    refine z_al0 eX12_opens_5 ?_
    refine z_gi eX12_opens_6 fX12_217 zs117 ?_
    refine z_cgt eX12_opens_9 rfl (fun c9 => ?_) (fun c9 => ?_)
    · omega
    · refine z_il1 eX12_opens_12 ?_
      refine z_il2 eX12_opens_13 ?_
      refine z_cle eX12_opens_14 rfl (fun c14 => ?_) (fun c14 => ?_)
      · refine z_al0 eX12_opens_23 ?_
        refine z_il1 eX12_opens_24 ?_
        refine z_pi eX12_opens_25 pX12_137 zs117 ?_
        refine z_al0 eX12_opens_28 ?_
        refine z_ki eX12_opens_29 ?_
        refine z_pi eX12_opens_30 pX12_217 zs117 ?_
        refine z_al0 eX12_opens_33 ?_
        refine z_ki eX12_opens_34 ?_
        refine z_pi eX12_opens_35 pX12_140 zs117 ?_
        refine z_al0 eX12_opens_38 ?_
        refine z_ki eX12_opens_39 ?_
        refine z_pi eX12_opens_40 pX12_201 zs117 ?_
        generalize hg : zup (zup (zup (zup h 117 9 (L : Int)) 117 8 0) 117 16 0) 117 12 0 = g
        have gc : ∀ c : Nat, ¬ c = 117 → g c = h c := fun c hc => by rw [← hg, zup_off hc, zup_off hc, zup_off hc, zup_off hc]
        have gi : ∀ i : Nat, ¬ i = 8 → ¬ i = 9 → ¬ (12 ≤ i ∧ i ≤ 19) → g 117 i = h 117 i := fun i i1 i2 i3 => by rw [← hg, zup_ne (by omega), zup_ne (by omega), zup_ne (by omega), zup_ne (by omega)]
        have g8 : g 117 8 = 0 := by rw [← hg, zup_ne (by decide), zup_ne (by decide), zup_at]
        have g9 : g 117 9 = (L : Int) := by rw [← hg, zup_ne (by decide), zup_ne (by decide), zup_ne (by decide), zup_at]
        have g16 : g 117 16 = ((0 : Nat) : Int) := by rw [← hg, zup_ne (by decide), zup_at]; rfl
        have g12 : g 117 12 = 0 := by rw [← hg, zup_at]
        clear hg
        have gB : mB g B L := ⟨g9, h700, fun i hi => by rw [gc 121 (by decide)]; exact hBy i hi⟩
        refine z_al0 eX12_opens_43 ?_
        refine zc_vv0 eX12_opens_44 lX12_211 tX12_next zs117 (by decide) (Nat.le_of_ble_eq_true rfl) (r_nx g B L gB 0 (Nat.zero_le _) g16) ?_
        rintro f ⟨F, T⟩
        refine z_ki eX12_opens_47 ?_
        refine ze_z eX12_opens_48 rfl (by first | exact Or.inl rfl | exact Or.inr rfl) ?_
        exact ⟨rfl, fun c hc => (F.1 c hc).trans (gc c hc), fun i i1 i2 i3 => (F.2 i (by omega)).trans (gi i i1 i2 i3), (F.2 8 (by decide)).trans g8, (F.2 9 (by decide)).trans g9, (F.2 12 (by decide)).trans g12, T⟩
      · omega
theorem r_wellY (h : zHp) (hb : h 117 12 = 0) : zCi mX12_isWell 1 [zA 117] h (fun v h' => (1 : Int) = v ∧ zup (zup h 117 10 0) 117 11 (-1) = h') := by
  refine z_enter [zA 117] (by decide +kernel) (Nat.le_of_ble_eq_true rfl) rfl (fun hra hrg => ?_)
  refine z_al0 eX12_isWell_0 ?_
  refine z_al0 eX12_isWell_1 ?_
  refine z_gi eX12_isWell_2 fX12_201 zs117 ?_
  rw [hb]
  refine z_pi eX12_isWell_5 pX12_28 zs117 ?_
  refine z_al0 eX12_isWell_8 ?_
  refine z_al0 eX12_isWell_9 ?_
  refine z_gi eX12_isWell_10 fX12_201 zs117 ?_
  rw [zup_ne (by decide), hb]
  refine z_ine eX12_isWell_13 rfl (fun c13 => ?_) (fun c13 => ?_)
  · exact absurd rfl c13
  · refine z_ki eX12_isWell_16 ?_
    refine z_goto eX12_isWell_17 rfl ?_
    refine z_pi eX12_isWell_24 pX12_32 zs117 ?_
    refine z_al0 eX12_isWell_27 ?_
    refine z_gi eX12_isWell_28 fX12_201 zs117 ?_
    rw [zup_ne (by decide), zup_ne (by decide), hb]
    refine z_ieq eX12_isWell_31 rfl (fun c31 => ?_) (fun c31 => ?_)
    · refine z_ki eX12_isWell_43 ?_
      refine z_goto eX12_isWell_44 rfl ?_
      refine ze_z eX12_isWell_48 rfl (by first | exact Or.inl rfl | exact Or.inr rfl) ?_
      exact ⟨rfl, rfl⟩
    · exact absurd rfl c31
theorem r_wellN (h : zHp) (k : Int) (a : Nat) (hb : h 117 12 = k) (ha : h 117 13 = (a : Int)) (hk : 0 < k) : zCi mX12_isWell 1 [zA 117] h (fun v h' => (0 : Int) = v ∧ zup (zup (zup h 117 10 k) 117 11 (a : Int)) 117 0 10 = h') := by
  refine z_enter [zA 117] (by decide +kernel) (Nat.le_of_ble_eq_true rfl) rfl (fun hra hrg => ?_)
  refine z_al0 eX12_isWell_0 ?_
  refine z_al0 eX12_isWell_1 ?_
  refine z_gi eX12_isWell_2 fX12_201 zs117 ?_
  rw [hb]
  refine z_pi eX12_isWell_5 pX12_28 zs117 ?_
  refine z_al0 eX12_isWell_8 ?_
  refine z_al0 eX12_isWell_9 ?_
  refine z_gi eX12_isWell_10 fX12_201 zs117 ?_
  rw [zup_ne (by decide), hb]
  refine z_ine eX12_isWell_13 rfl (fun c13 => ?_) (fun c13 => ?_)
  · refine z_al0 eX12_isWell_20 ?_
    refine z_gi eX12_isWell_21 fX12_204 zs117 ?_
    rw [zup_ne (by decide), ha]
    refine z_pi eX12_isWell_24 pX12_32 zs117 ?_
    refine z_al0 eX12_isWell_27 ?_
    refine z_gi eX12_isWell_28 fX12_201 zs117 ?_
    rw [zup_ne (by decide), zup_ne (by decide), hb]
    refine z_ieq eX12_isWell_31 rfl (fun c31 => ?_) (fun c31 => ?_)
    · omega
    · refine z_al0 eX12_isWell_34 ?_
      refine z_ki eX12_isWell_35 ?_
      refine zc_vi1 eX12_isWell_37 lX12_113 tX12_no zs117 (by decide) (Nat.le_of_ble_eq_true rfl) (r_no _ _) ?_
      rintro _ _ ⟨rfl, rfl⟩ -
      refine z_ieq eX12_isWell_40 rfl (fun c40 => ?_) (fun c40 => ?_)
      · refine z_ki eX12_isWell_47 ?_
        refine ze_z eX12_isWell_48 rfl (by first | exact Or.inl rfl | exact Or.inr rfl) ?_
        exact ⟨rfl, rfl⟩
      · exact absurd rfl c40
  · omega
def tyF (D : Nat → Int) : Nat → Nat → Int
  | 0 => D
  | n + 1 => up (tyF D n) (11 + n) (n : Int)
def fiD (D : Nat → Int) (ht : Int) : Nat → Int := if ht = 0 then tyF D (nN D) else D
/-- what the reference's hall comes to -/
def mHp (h0 : zHp) (B : Nat → Int) (L : Nat) (R : Rh) (v : Int) (h : zHp) : Prop := match R with
  | .inl e => (-1 : Int) = v ∧ ∃ g, mXs h0 e.1 e.2 g ∧ zup (zup (zup g 117 10 e.1) 117 11 (e.2 : Int)) 117 0 10 = h
  | .inr s => s.2.1 0 = v ∧ dN s.2.1 ∧ ∃ g g2, mQ h0 B L s.1 s.2.1 s.2.2.1 s.2.2.2 g ∧ mQ (zup (zup g 117 10 0) 117 11 (-1)) B L s.1 (fiD s.2.1 s.2.2.2) s.2.2.1 s.2.2.2 g2 ∧ zcp (zcp g2 122 1200 122 0 240) 123 32 123 0 8 = h
theorem mHf.rf {h : zHp} : mHf h h := ⟨fun _ _ _ _ => rfl, fun _ _ _ => rfl, fun _ _ => rfl, fun _ _ => rfl, fun _ _ => rfl, fun z => z⟩
theorem mQ.reb {h0 h : zHp} {B : Nat → Int} {L q : Nat} {D W : Nat → Int} {ht : Int} (M : mQ h0 B L q D W ht h) (x y : Int) : mQ (zup (zup h 117 10 x) 117 11 y) B L q D W ht (zup (zup h 117 10 x) 117 11 y) := ⟨mHf.rf, M.2.1.cg (by rw [zup_ne (by decide), zup_ne (by decide)]) (by rw [zup_off (by decide), zup_off (by decide)]), by rw [zup_ne (by decide), zup_ne (by decide)]; exact M.hb, M.hq, M.T.cg (fun i hi => by rw [zup_ne (by omega), zup_ne (by omega)]), fun j hj => by rw [zup_off (by decide), zup_off (by decide)]; exact M.c j hj, fun j hj => by rw [zup_off (by decide), zup_off (by decide)]; exact M.w j hj, by rw [zup_ne (by decide), zup_ne (by decide)]; exact M.t⟩
theorem mQ.cgD {h0 h : zHp} {B : Nat → Int} {L q : Nat} {D D2 W : Nat → Int} {ht : Int} (M : mQ h0 B L q D W ht h) (e : ∀ j : Nat, j < 300 → D j = D2 j) : mQ h0 B L q D2 W ht h := ⟨M.1, M.2.1, M.hb, M.hq, M.T, fun j hj => (M.c j hj).trans (e j hj), M.w, M.t⟩
theorem tyF_n {D : Nat → Int} : ∀ n j : Nat, ¬ (11 ≤ j ∧ j < 11 + n) → tyF D n j = D j := by
  intro n
  induction n with
  | zero => intro j _; rfl
  | succ n ih =>
    intro j hj
    rw [tyF, up_ne (by omega)]
    exact ih j (by omega)
theorem tyF_i {D : Nat → Int} : ∀ n k : Nat, k < n → tyF D n (11 + k) = (k : Int) := by
  intro n
  induction n with
  | zero => intro k hk; omega
  | succ n ih =>
    intro k hk
    rw [tyF]
    by_cases e : k = n
    · rw [e, up_at]
    · rw [up_ne (by omega)]; exact ih k (by omega)
theorem r_hl_w (g : zHp) (n : Int) : ∀ (r k : Nat), k + r = 8 → zRW mX12_hall 5 (0, 0) 183 [zA 117, zI n, zI k] [] 143 (zcp (zcp g 122 1200 122 0 240) 123 32 123 0 k) (zqi (fun v h' => g 122 1200 = v ∧ zcp (zcp g 122 1200 122 0 240) 123 32 123 0 8 = h')) := by
  intro r
  induction r using Nat.strongRecOn with
  | ind r ih =>
    intro k hk
    refine z_il2 eX12_hall_183 ?_
    refine z_ki eX12_hall_184 ?_
    refine z_cge eX12_hall_186 rfl (fun c186 => ?_) (fun c186 => ?_)
    · refine z_al0 eX12_hall_210 ?_
      refine z_ga eX12_hall_211 fX12_35 zs117 (t := 122) rfl ?_
      refine z_ki eX12_hall_214 ?_
      refine zr_iN eX12_hall_215 zs122 (j := 0) (by omega) (by omega) ?_
      refine ze_i eX12_hall_216 rfl ?_
      have e : k = 8 := by omega
      subst e
      refine ⟨?_, rfl⟩
      rw [zcp_off (by decide), zcp_rd, if_pos ⟨rfl, by omega, by omega⟩]
    · refine z_al0 eX12_hall_189 ?_
      refine z_ga eX12_hall_190 fX12_38 zs117 (t := 123) rfl ?_
      refine z_il2 eX12_hall_193 ?_
      refine z_al0 eX12_hall_194 ?_
      refine z_ga eX12_hall_195 fX12_38 zs117 (t := 123) rfl ?_
      refine z_ki eX12_hall_198 ?_
      refine z_il2 eX12_hall_200 ?_
      refine z_iaddN eX12_hall_201 (by omega) (by omega) ?_
      refine zr_lN eX12_hall_202 zs123 (j := 32 + k) (by omega) (by omega) ?_
      rw [zcp_rd, if_neg (by omega), zcp_off (by decide)]
      refine zs_lN eX12_hall_203 zs123 (j := 0 + k) (by omega) (by omega) ?_
      refine z_incN2 eX12_hall_204 zn0 (by omega) (by omega) ?_
      refine z_goto eX12_hall_207 rfl ?_
      rw [zcp_s (by rw [zcp_off (by decide)])]
      exact ih (r - 1) (by omega) (k + 1) (by omega)
theorem r_hl_c (g : zHp) (n : Int) : ∀ (r k : Nat), k + r = 240 → zRW mX12_hall 5 (0, 0) 152 [zA 117, zI n, zI k] [] 143 (zcp g 122 1200 122 0 k) (zqi (fun v h' => g 122 1200 = v ∧ zcp (zcp g 122 1200 122 0 240) 123 32 123 0 8 = h')) := by
  intro r
  induction r using Nat.strongRecOn with
  | ind r ih =>
    intro k hk
    refine z_il2 eX12_hall_152 ?_
    refine z_ki eX12_hall_153 ?_
    refine z_cge eX12_hall_156 rfl (fun c156 => ?_) (fun c156 => ?_)
    · refine z_ki eX12_hall_181 ?_
      refine z_is2 eX12_hall_182 zn0 ?_
      have e : k = 240 := by omega
      subst e
      have q := r_hl_w g n 8 0 (by omega)
      rw [zcp_0] at q
      exact q
    · refine z_al0 eX12_hall_159 ?_
      refine z_ga eX12_hall_160 fX12_35 zs117 (t := 122) rfl ?_
      refine z_il2 eX12_hall_163 ?_
      refine z_al0 eX12_hall_164 ?_
      refine z_ga eX12_hall_165 fX12_35 zs117 (t := 122) rfl ?_
      refine z_ki eX12_hall_168 ?_
      refine z_il2 eX12_hall_171 ?_
      refine z_iaddN eX12_hall_172 (by omega) (by omega) ?_
      refine zr_iN eX12_hall_173 zs122 (j := 1200 + k) (by omega) (by omega) ?_
      rw [zcp_rd, if_neg (by omega)]
      refine zs_iN eX12_hall_174 zs122 (j := 0 + k) (by omega) (by omega) ?_
      refine z_incN2 eX12_hall_175 zn0 (by omega) (by omega) ?_
      refine z_goto eX12_hall_178 rfl ?_
      rw [zcp_s rfl]
      exact ih (r - 1) (by omega) (k + 1) (by omega)
theorem r_hl_t (h0 : zHp) (B : Nat → Int) (L q : Nat) (D W : Nat → Int) (n : Int) (hd : dN D) : ∀ (r k : Nat) (g : zHp), k + r = nN D → mQ h0 B L q (tyF D k) W 0 g → zRW mX12_hall 5 (0, 0) 114 [zA 117, zI n, zI k] [] 143 g (zqi (fun v h' => D 0 = v ∧ ∃ g2, mQ h0 B L q (tyF D (nN D)) W 0 g2 ∧ zcp (zcp g2 122 1200 122 0 240) 123 32 123 0 8 = h')) := by
  have hn := nN_dN hd
  intro r
  induction r using Nat.strongRecOn with
  | ind r ih =>
    intro k g hk M
    have e0 : g 122 1200 = D 0 := (M.c 0 (by omega)).trans (tyF_n k 0 (by omega))
    have e70 := M.t
    refine z_il2 eX12_hall_114 ?_
    refine z_al0 eX12_hall_115 ?_
    refine z_ga eX12_hall_116 fX12_35 zs117 (t := 122) rfl ?_
    refine z_ki eX12_hall_119 ?_
    refine zr_iN eX12_hall_122 zs122 (j := 1200) (by omega) (by omega) ?_
    refine z_cge eX12_hall_123 rfl (fun c123 => ?_) (fun c123 => ?_)
    · refine z_ki eX12_hall_150 ?_
      refine z_is2 eX12_hall_151 zn0 ?_
      have e : k = nN D := by omega
      rw [e] at M
      have z := r_hl_c g n 240 0 (by omega)
      rw [zcp_0] at z
      rw [← e0]
      exact z_wki z (fun v f y => ⟨y.1, g, M, y.2⟩)
    · refine z_al0 eX12_hall_126 ?_
      refine z_gi eX12_hall_127 fX12_224 zs117 ?_
      refine z_ine eX12_hall_130 rfl (fun c130 => ?_) (fun c130 => ?_)
      · omega
      · refine z_al0 eX12_hall_133 ?_
        refine z_ga eX12_hall_134 fX12_35 zs117 (t := 122) rfl ?_
        refine z_ki eX12_hall_137 ?_
        refine z_il2 eX12_hall_140 ?_
        refine z_iaddN eX12_hall_141 (by omega) (by omega) ?_
        refine z_il2 eX12_hall_142 ?_
        refine zs_iN eX12_hall_143 zs122 (j := 1200 + (11 + k)) (by omega) (by omega) ?_
        refine z_incN2 eX12_hall_144 zn0 (by omega) (by omega) ?_
        refine z_goto eX12_hall_147 rfl ?_
        exact ih (r - 1) (by omega) (k + 1) _ (by omega) (M.up2 (i := 11 + k) (k : Int) (by omega))
theorem r_hl_t1 (h0 : zHp) (B : Nat → Int) (L q : Nat) (D W : Nat → Int) (n ht : Int) (hd : dN D) (g : zHp) (M : mQ h0 B L q D W ht g) (hz : ¬ ht = 0) : zRW mX12_hall 5 (0, 0) 114 [zA 117, zI n, zI 0] [] 143 g (zqi (fun v h' => D 0 = v ∧ ∃ g2, mQ h0 B L q D W ht g2 ∧ zcp (zcp g2 122 1200 122 0 240) 123 32 123 0 8 = h')) := by
  have hn := nN_dN hd
  have e0 : g 122 1200 = D 0 := M.c 0 (by omega)
  have e70 := M.t
  refine z_il2 eX12_hall_114 ?_
  refine z_al0 eX12_hall_115 ?_
  refine z_ga eX12_hall_116 fX12_35 zs117 (t := 122) rfl ?_
  refine z_ki eX12_hall_119 ?_
  refine zr_iN eX12_hall_122 zs122 (j := 1200) (by omega) (by omega) ?_
  refine z_cge eX12_hall_123 rfl (fun c123 => ?_) (fun c123 => ?_)
  · refine z_ki eX12_hall_150 ?_
    refine z_is2 eX12_hall_151 zn0 ?_
    have z := r_hl_c g n 240 0 (by omega)
    rw [zcp_0] at z
    rw [← e0]
    exact z_wki z (fun v f y => ⟨y.1, g, M, y.2⟩)
  · refine z_al0 eX12_hall_126 ?_
    refine z_gi eX12_hall_127 fX12_224 zs117 ?_
    refine z_ine eX12_hall_130 rfl (fun c130 => ?_) (fun c130 => ?_)
    · refine z_ki eX12_hall_150 ?_
      refine z_is2 eX12_hall_151 zn0 ?_
      have z := r_hl_c g n 240 0 (by omega)
      rw [zcp_0] at z
      rw [← e0]
      exact z_wki z (fun v f y => ⟨y.1, g, M, y.2⟩)
    · omega
theorem r_hl_e (h0 : zHp) (B : Nat → Int) (L q : Nat) (D W : Nat → Int) (n ht : Int) (hd : dN D) (g : zHp) (M : mQ h0 B L q D W ht g) (k : Int) : zRW mX12_hall 5 (0, 0) 103 [zA 117, zI n, zI k] [] 143 g (zqi (fun v h' => mHp h0 B L (.inr (q, D, W, ht)) v h')) := by
  refine z_al0 eX12_hall_103 ?_
  refine zc_vi0 eX12_hall_104 lX12_258 tX12_isWell zs117 (by decide) (Nat.le_of_ble_eq_true rfl) (r_wellY _ M.hb) ?_
  rintro _ _ ⟨rfl, rfl⟩ -
  refine z_ine eX12_hall_107 rfl (fun c107 => ?_) (fun c107 => ?_)
  · refine z_ki eX12_hall_112 ?_
    refine z_is2 eX12_hall_113 zn0 ?_
    have M2 := M.reb 0 (-1)
    by_cases hz : ht = 0
    · have ef : fiD D ht = tyF D (nN D) := if_pos hz
      subst hz
      refine z_wki (r_hl_t _ B L q D W n hd (nN D) 0 _ (by omega) M2) (fun v f y => ?_)
      obtain ⟨y1, g2, y2, y3⟩ := y
      exact ⟨y1, hd, g, g2, M, by rw [show fiD D 0 = tyF D (nN D) from ef]; exact y2, y3⟩
    · have ef : fiD D ht = D := if_neg hz
      refine z_wki (r_hl_t1 _ B L q D W n ht hd _ M2 hz) (fun v f y => ?_)
      obtain ⟨y1, g2, y2, y3⟩ := y
      exact ⟨y1, hd, g, g2, M, by show mQ _ B L q (fiD D ht) W ht g2; rw [ef]; exact y2, y3⟩
  · exact absurd c107 (by decide)
theorem r_hl_b (h0 : zHp) (B : Nat → Int) (L : Nat) (n : Int) (k : Int) (a : Nat) (g : zHp) (X : mXs h0 k a g) (y : Int) : zRW mX12_hall 5 (0, 0) 54 [zA 117, zI n, zI y] [] 143 g (zqi (fun v h' => mHp h0 B L (.inl (k, a)) v h')) := by
  refine z_al0 eX12_hall_54 ?_
  refine z_gi eX12_hall_55 fX12_201 zs117 ?_
  refine z_ine eX12_hall_58 rfl (fun c58 => ?_) (fun c58 => ?_)
  · refine z_al0 eX12_hall_103 ?_
    refine zc_vi0 eX12_hall_104 lX12_258 tX12_isWell zs117 (by decide) (Nat.le_of_ble_eq_true rfl) (r_wellN _ k a X.2.1 X.2.2.1 X.2.2.2) ?_
    rintro _ _ ⟨rfl, rfl⟩ -
    refine z_ine eX12_hall_107 rfl (fun c107 => ?_) (fun c107 => ?_)
    · exact absurd rfl c107
    · refine z_ki eX12_hall_110 ?_
      refine ze_i eX12_hall_111 rfl ?_
      exact ⟨rfl, g, X, rfl⟩
  · have := X.b; omega
theorem r_hl_l (h0 : zHp) (B : Nat → Int) (L : Nat) (n y : Int) : ∀ (f q : Nat) (D W : Nat → Int) (ht : Int) (g : zHp), L + 1 ≤ q + f → mQ h0 B L q D W ht g → dN D → zRW mX12_hall 5 (0, 0) 54 [zA 117, zI n, zI y] [] 143 g (zqi (fun v h' => mHp h0 B L (hallF B L f q D W ht) v h')) := by
  intro f
  induction f with
  | zero => intro q D W ht g hf M; have := M.hq; omega
  | succ f ih =>
    intro q D W ht g hf M hd
    refine z_rg (fun hr _ _ => ?_)
    have hb := M.hb
    have t14 := M.T.1
    have e70 := M.t
    have t01 : 0 ≤ g 117 70 ∧ g 117 70 ≤ 1 := hr 117 70 12 74 (by decide) rfl (by decide)
    have hz : ht = 0 ∨ ht = 1 := by omega
    refine z_al0 eX12_hall_54 ?_
    refine z_gi eX12_hall_55 fX12_201 zs117 ?_
    refine z_ine eX12_hall_58 rfl (fun c58 => ?_) (fun c58 => ?_)
    · exact absurd hb c58
    · refine z_al0 eX12_hall_61 ?_
      refine z_gi eX12_hall_62 fX12_149 zs117 ?_
      refine z_ieq eX12_hall_65 rfl (fun c65 => ?_) (fun c65 => ?_)
      · have eH : hallF B L (f + 1) q D W ht = .inr (q, D, W, ht) := by rw [hallF, if_pos (by omega)]
        rw [eH]
        exact r_hl_e h0 B L q D W n ht hd g M y
      · refine z_al0 eX12_hall_68 ?_
        refine zc_vi0 eX12_hall_69 lX12_179 tX12_isNameWord zs117 (by decide) (Nat.le_of_ble_eq_true rfl) (r_kwName _ B L _ M.hq M.T) ?_
        rintro _ _ ⟨rfl, rfl⟩ -
        refine z_ieq eX12_hall_72 rfl (fun c72 => ?_) (fun c72 => ?_)
        · have z72 := iteF c72
          refine z_al0 eX12_hall_82 ?_
          refine zc_vi0 eX12_hall_83 lX12_189 tX12_isSortWord zs117 (by decide) (Nat.le_of_ble_eq_true rfl) (r_kwSort _ B L _ M.hq M.T) ?_
          rintro _ _ ⟨rfl, rfl⟩ -
          refine z_ieq eX12_hall_86 rfl (fun c86 => ?_) (fun c86 => ?_)
          · have z86 := iteF c86
            refine z_al0 eX12_hall_96 ?_
            refine zc_vv0 eX12_hall_97 lX12_255 tX12_readTies zs117 (by decide) (Nat.le_of_ble_eq_true rfl) (r_readTies h0 g B L q D W ht M hd hz) ?_
            rintro g1 R1
            refine z_goto eX12_hall_100 rfl ?_
            have eH : hallF B L (f + 1) q D W ht = bnd ((if isK B L q 6 then tiesF B L q D W ht else .inl (fK (tkK B L q) 2, tkA B L q) : Rh)) (fun s => hallF B L f s.1 s.2.1 s.2.2.1 s.2.2.2) := by
              rw [hallF, if_neg (by omega)]
              rw [if_neg z72, if_neg z86]
            rw [eH]
            generalize (if isK B L q 6 then tiesF B L q D W ht else .inl (fK (tkK B L q) 2, tkA B L q) : Rh) = R at R1 ⊢
            rcases R with e | s
            · exact r_hl_b h0 B L n e.1 e.2 g1 R1 y
            · obtain ⟨s1, s2, s3⟩ := R1
              exact ih s.1 s.2.1 s.2.2.1 s.2.2.2 g1 (by omega) s2 s3
          · have z86 := iteT c86
            refine z_al0 eX12_hall_89 ?_
            refine zc_vv0 eX12_hall_90 lX12_252 tX12_readSort zs117 (by decide) (Nat.le_of_ble_eq_true rfl) (r_readSort h0 g B L q D W ht M hd z86.1) ?_
            rintro g1 R1
            refine z_goto eX12_hall_93 rfl ?_
            have eH : hallF B L (f + 1) q D W ht = bnd (sortF B L q D W ht) (fun s => hallF B L f s.1 s.2.1 s.2.2.1 s.2.2.2) := by
              rw [hallF, if_neg (by omega)]
              rw [if_neg z72, if_pos z86]
            rw [eH]
            generalize sortF B L q D W ht = R at R1 ⊢
            rcases R with e | s
            · exact r_hl_b h0 B L n e.1 e.2 g1 R1 y
            · obtain ⟨s1, s2, s3⟩ := R1
              exact ih s.1 s.2.1 s.2.2.1 s.2.2.2 g1 (by omega) s2 s3
        · have z72 := iteT c72
          refine z_al0 eX12_hall_75 ?_
          refine zc_vv0 eX12_hall_76 lX12_249 tX12_readName zs117 (by decide) (Nat.le_of_ble_eq_true rfl) (r_readName h0 g B L q D W ht M hd z72.1 hz) ?_
          rintro g1 R1
          refine z_goto eX12_hall_79 rfl ?_
          have eH : hallF B L (f + 1) q D W ht = bnd (nameF B L q D W ht) (fun s => hallF B L f s.1 s.2.1 s.2.2.1 s.2.2.2) := by
            rw [hallF, if_neg (by omega)]
            rw [if_pos z72]
          rw [eH]
          generalize nameF B L q D W ht = R at R1 ⊢
          rcases R with e | s
          · exact r_hl_b h0 B L n e.1 e.2 g1 R1 y
          · obtain ⟨s1, s2, s3⟩ := R1
            exact ih s.1 s.2.1 s.2.2.1 s.2.2.2 g1 (by omega) s2 s3
theorem r_hl_0 (h0 : zHp) (B : Nat → Int) (L : Nat) (n : Int) (D2 W : Nat → Int) (hD2 : ∀ j : Nat, j < 240 → D2 j = 0) : ∀ (r k : Nat) (D : Nat → Int) (ht : Int) (g : zHp), k + r = 240 → mQ h0 B L 0 D W ht g → (∀ j : Nat, j < k → D j = 0) → (∀ j : Nat, 240 ≤ j → j < 300 → D j = D2 j) → zRW mX12_hall 5 (0, 0) 25 [zA 117, zI n, zI k] [] 143 g (zqi (fun v h' => mHp h0 B L (hallF B L 701 0 D2 W 0) v h')) := by
  intro r
  induction r using Nat.strongRecOn with
  | ind r ih =>
    intro k D ht g hk M h1 h2
    have hL := M.2.1.2.1
    refine z_il2 eX12_hall_25 ?_
    refine z_ki eX12_hall_26 ?_
    refine z_cge eX12_hall_29 rfl (fun c29 => ?_) (fun c29 => ?_)
    · refine z_al0 eX12_hall_49 ?_
      refine z_ki eX12_hall_50 ?_
      refine z_pz eX12_hall_51 pX12_224 zs117 (by omega) ?_
      have M2 := (M.cgD (D2 := D2) (fun j hj => by
        by_cases c : j < 240
        · rw [h1 j (by omega), hD2 j c]
        · exact h2 j (by omega) hj)).up70 0
      exact r_hl_l h0 B L n k 701 0 D2 W 0 _ (by omega) M2 (by unfold dN; rw [hD2 0 (by omega), hD2 1 (by omega)]; omega)
    · refine z_al0 eX12_hall_32 ?_
      refine z_ga eX12_hall_33 fX12_35 zs117 (t := 122) rfl ?_
      refine z_ki eX12_hall_36 ?_
      refine z_il2 eX12_hall_39 ?_
      refine z_iaddN eX12_hall_40 (by omega) (by omega) ?_
      refine z_ki eX12_hall_41 ?_
      refine zs_iN eX12_hall_42 zs122 (j := 1200 + k) (by omega) (by omega) ?_
      refine z_incN2 eX12_hall_43 zn0 (by omega) (by omega) ?_
      refine z_goto eX12_hall_46 rfl ?_
      exact ih (r - 1) (by omega) (k + 1) (up D k 0) ht _ (by omega) (M.up2 (i := k) 0 (by omega)) (fun j hj => by
        by_cases e : j = k
        · rw [e, up_at]
        · rw [up_ne e]; exact h1 j (by omega)) (fun j j1 j2 => by rw [up_ne (by omega)]; exact h2 j j1 j2)
/-- what the new block is when a hall is begun -/
def nwD (h : zHp) : Nat → Int := fun j => if j < 240 then 0 else h 122 (1200 + j)
def nwW (h : zHp) : Nat → Int := fun k => h 123 (32 + k)
theorem opP.mQ {h g : zHp} {B : Nat → Int} {L : Nat} (O : opP h B L g) (h700 : L ≤ 700) (hBy : ∀ i : Nat, i < L → h 121 i = B i ∧ -128 ≤ B i ∧ B i ≤ 127) : mQ g B L 0 (fun j => h 122 (1200 + j)) (nwW h) (g 117 70) g := ⟨mHf.rf, ⟨O.2.2.2.1, h700, fun i hi => by rw [O.1 121 (by decide)]; exact hBy i hi⟩, O.2.2.2.2.1, Nat.zero_le _, O.2.2.2.2.2, fun j _ => by rw [O.1 122 (by decide)], fun k _ => by rw [O.1 123 (by decide)]; rfl, rfl⟩
theorem r_hallN (h : zHp) (n : Int) (hc : n < 0 ∨ h 117 8 < n ∨ 700 < n) : zCi mX12_hall 5 [zA 117, zI n] h (fun v h' => pM0 h (-1, 5) v h') := by
  refine z_enter [zA 117, zI n, zU] (by decide +kernel) (Nat.le_of_ble_eq_true rfl) rfl (fun hra hrg => ?_)
  refine z_al0 eX12_hall_0 ?_
  refine z_ki eX12_hall_1 ?_
  refine z_pi eX12_hall_2 pX12_98 zs117 ?_
  refine z_al0 eX12_hall_5 ?_
  refine z_ki eX12_hall_6 ?_
  refine z_pi eX12_hall_7 pX12_101 zs117 ?_
  generalize hg : zup (zup h 117 1 0) 117 0 0 = g
  obtain ⟨ga, gf, g0⟩ := m_g hg
  refine z_al0 eX12_hall_10 ?_
  refine z_il1 eX12_hall_11 ?_
  refine z_ki eX12_hall_12 ?_
  refine zc_vi2 eX12_hall_15 lX12_245 tX12_opens zs117 (by decide) (Nat.le_of_ble_eq_true rfl) (r_opensN _ _ _ (by rw [gf 8 (by decide) (by decide)]; exact hc)) ?_
  rintro _ _ ⟨rfl, rfl⟩ -
  refine z_ine eX12_hall_18 rfl (fun c18 => ?_) (fun c18 => ?_)
  · exact absurd rfl c18
  · refine z_ki eX12_hall_21 ?_
    refine ze_i eX12_hall_22 rfl ?_
    exact pM0_fr hg zMf.rf rfl
theorem r_hallY (h : zHp) (B : Nat → Int) (L : Nat) (hL : (L : Int) ≤ h 117 8) (h700 : L ≤ 700) (hBy : ∀ i : Nat, i < L → h 121 i = B i ∧ -128 ≤ B i ∧ B i ≤ 127) : zCi mX12_hall 5 [zA 117, zI L] h (fun v h' => ∃ g, opP (zup (zup h 117 1 0) 117 0 0) B L g ∧ mHp g B L (hallF B L 701 0 (nwD h) (nwW h) 0) v h') := by
  refine z_enter [zA 117, zI L, zU] (by decide +kernel) (Nat.le_of_ble_eq_true rfl) rfl (fun hra hrg => ?_)
  refine z_al0 eX12_hall_0 ?_
  refine z_ki eX12_hall_1 ?_
  refine z_pi eX12_hall_2 pX12_98 zs117 ?_
  refine z_al0 eX12_hall_5 ?_
  refine z_ki eX12_hall_6 ?_
  refine z_pi eX12_hall_7 pX12_101 zs117 ?_
  generalize hg : zup (zup h 117 1 0) 117 0 0 = g
  obtain ⟨ga, gf, g0⟩ := m_g hg
  have hBy2 : ∀ i : Nat, i < L → g 121 i = B i ∧ -128 ≤ B i ∧ B i ≤ 127 := fun i hi => by rw [ga 121 (by decide)]; exact hBy i hi
  refine z_al0 eX12_hall_10 ?_
  refine z_il1 eX12_hall_11 ?_
  refine z_ki eX12_hall_12 ?_
  refine zc_vi2 eX12_hall_15 lX12_245 tX12_opens zs117 (by decide) (Nat.le_of_ble_eq_true rfl) (r_opensY g B L 700 (by rw [gf 8 (by decide) (by decide)]; exact hL) (by omega) h700 hBy2) ?_
  rintro _ g1 ⟨rfl, O⟩ -
  refine z_ine eX12_hall_18 rfl (fun c18 => ?_) (fun c18 => ?_)
  · refine z_ki eX12_hall_23 ?_
    refine z_is2 eX12_hall_24 zn0 ?_
    have M := O.mQ h700 hBy2
    have eW : nwW g = nwW h := by unfold nwW; rw [ga 123 (by decide)]
    rw [eW] at M
    refine z_wki (r_hl_0 g1 B L L (nwD h) (nwW h) (fun j hj => if_pos hj) 240 0 _ _ g1 (by omega) M (fun j hj => by omega) (fun j j1 j2 => ?_)) (fun v f y => ⟨g1, O, y⟩)
    show g 122 (1200 + j) = nwD h j
    unfold nwD
    rw [if_neg (by omega), ga 122 (by decide)]
  · exact absurd c18 (by decide)
