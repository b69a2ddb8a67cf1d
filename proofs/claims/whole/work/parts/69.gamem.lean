-- game: the reference's call (written by wip/tools/specG4.py)
def fM4 (h g : zHp) : Prop := zEx [4] h g ∧ (∀ a : Nat, a < 117 → g a = h a) ∧ g 117 0 = h 117 0
theorem fM4.mf {h g f : zHp} (H : fM4 h g) (F : zMf g f) : fM4 h f := ⟨H.1.tr (F.1.wk (by simp)), fun a ha => (F.2.1 a ha).trans (H.2.1 a ha), F.2.2.trans H.2.2⟩
theorem fM4.up {h g : zHp} (H : fM4 h g) {i : Nat} (hi : i = 61 ∨ i = 62) (v : Int) : fM4 h (zup g 117 i v) := ⟨H.1.up (Or.inr (by rcases hi with rfl | rfl <;> exact (show 4 ∈ [4] by decide))), fun a ha => (zup_off (by omega)).trans (H.2.1 a ha), (zup_ne (by omega)).trans H.2.2⟩
def cnd (S : Nat) (op : Int) : Nat := if op < 0 then S else S ^^^ 2 ^ op.toNat
theorem opF_s {mn : Nat} {G : Nat → Bool} {S n k : Nat} (hk : k < n) : opF mn G S (n - k) k = if mn.testBit k = true ∧ G (S ^^^ 2 ^ k) = true then (k : Int) else opF mn G S (n - (k + 1)) (k + 1) := by
  rw [show n - k = (n - (k + 1)) + 1 by omega, opF]
theorem r_game_l (D : Nat → Int) (hb : dB D) (a : Int) (mn ot E : Nat) (hmn : mn < 256) (hot : ot < 256) (hE6 : E ≤ 6) (hE2 : E % 2 = 0) (hE1 : 1 ≤ E) (S : Nat) (hDS : D 2 = (S : Int)) (hS : S < 2 ^ nN D) (hor : orF mn (gmF D a mn ot (E - 1)) S (nN D) = true) (g0 : zHp) (T al : Int) : ∀ (r k : Nat) (g : zHp) (op : Int), k + r = nN D → sG D a mn ot E g → fM4 g0 g → g 117 62 = 1 → g 117 61 = op → (op = -1 ∨ (0 ≤ op ∧ op < k)) → ((gmF D a mn ot (E - 1)) (cnd S op) = true ∧ opn mn (gmF D a mn ot (E - 1)) S (nN D) = op ∨ (gmF D a mn ot (E - 1)) (cnd S op) = false ∧ (gmF D a mn ot (E - 1)) S = false ∧ opF mn (gmF D a mn ot (E - 1)) S (nN D) 0 = opF mn (gmF D a mn ot (E - 1)) S (nN D - k) k) → zRW mX12_game 14 (0, 0) 166 [zA 117, zI a, zI mn, zI ot, zI T, zI al, zI k] [] 143 g (zqi (fun v h' => (1 : Int) = v ∧ fM4 g0 h' ∧ h' 117 62 = 1 ∧ h' 117 61 = opn mn (gmF D a mn ot (E - 1)) S (nN D))) := by
  have hN := nN_eq hb
  have hN8 := nN_le hb
  have h256 := p2le hN8
  intro r
  induction r using Nat.strongRecOn with
  | ind r ih =>
    intro k g op hk Hs hf f62 f61 hop hinv
    have d0 : g 122 0 = (nN D : Int) := by rw [Hs.1.1]; exact hN
    have d2 : g 122 2 = (S : Int) := by rw [Hs.1.1]; exact hDS
    have hcl : cnd S op < 2 ^ nN D := by
      unfold cnd
      split
      · exact hS
      · exact xor_p2_lt hS (by omega)
    refine z_il6 eX12_game_166 ?_
    refine z_al0 eX12_game_168 ?_
    refine z_ga eX12_game_169 fX12_35 zs117 (t := 122) rfl ?_
    refine z_ki eX12_game_172 ?_
    refine zr_iN eX12_game_173 zs122 (j := 0) (by omega) (by omega) ?_
    refine z_cge eX12_game_174 rfl (fun c174 => ?_) (fun c174 => ?_)
    · refine z_ki eX12_game_231 ?_
      refine ze_i eX12_game_232 rfl ?_
      refine ⟨rfl, hf, f62, ?_⟩
      rcases hinv with z | z
      · rw [f61, z.2]
      · exfalso
        have e : k = nN D := by omega
        have z3 := z.2.2
        rw [e, Nat.sub_self] at z3
        have w := (opF_or (mn := mn) (G := (gmF D a mn ot (E - 1))) (S := S) (nN D) 0 (by rw [orF]; exact z.2.1)).mp z3
        rw [Nat.zero_add, hor] at w
        cases w
    · refine z_al0 eX12_game_177 ?_
      refine z_ki eX12_game_178 ?_
      refine z_al0 eX12_game_179 ?_
      refine z_ga eX12_game_180 fX12_35 zs117 (t := 122) rfl ?_
      refine z_ki eX12_game_183 ?_
      refine zr_iN eX12_game_184 zs122 (j := 2) (by omega) (by omega) ?_
      refine z_al0 eX12_game_185 ?_
      refine z_gi eX12_game_186 fX12_86 zs117 ?_
      rw [f61]
      refine z_ige eX12_game_189 rfl (fun c189 => ?_) (fun c189 => ?_)
      · refine z_ki eX12_game_196 ?_
        refine z_al0 eX12_game_197 ?_
        refine z_gi eX12_game_198 fX12_86 zs117 ?_
        rw [f61]
        refine z_ishl eX12_game_201 ?_
        refine z_ixor eX12_game_202 ?_
        rw [d2, show zxor (S : Int) (zshl 1 op) = ((cnd S op : Nat) : Int) by
          obtain ⟨o, ho⟩ := Int.eq_ofNat_of_zero_le (show 0 ≤ op by omega)
          have hp2 := Nat.pow_le_pow_right (n := 2) (by omega) (show o ≤ 7 by omega)
          unfold cnd
          rw [if_neg (by omega), ho, kb_shl1 (by omega), kb_xor (by omega) (by omega)]; rfl]
        refine zc_vi2 eX12_game_203 lX12_429 tX12_sure zs117 (by decide) (Nat.le_of_ble_eq_true rfl) (r_sure13 D hb a mn ot E hmn hot hE6 hE2 (E - 1) 1 (cnd S op) g (by omega) hcl Hs) ?_
        rintro _ g2 ⟨rfl, Hs2, hm2⟩ -
        have hf2 := hf.mf hm2
        have F2 : g2 117 61 = op ∧ g2 117 62 = 1 := by
          rw [hm2.1 4 (by omega) (by omega) (by simp) 117 61 rfl, hm2.1 4 (by omega) (by omega) (by simp) 117 62 rfl]
          exact ⟨f61, f62⟩
        refine z_ine eX12_game_206 rfl (fun c206 => ?_) (fun c206 => ?_)
        · refine z_ki eX12_game_231 ?_
          refine ze_i eX12_game_232 rfl ?_
          refine ⟨rfl, hf2, F2.2, ?_⟩
          have y := bI_1 c206
          rcases hinv with z | z
          · rw [F2.1, z.2]
          · rw [z.1] at y; cases y
        · have y := bI_0 c206
          have hinv2 : (gmF D a mn ot (E - 1)) S = false ∧ opF mn (gmF D a mn ot (E - 1)) S (nN D) 0 = opF mn (gmF D a mn ot (E - 1)) S (nN D - k) k := by
            rcases hinv with z | z
            · rw [z.1] at y; cases y
            · exact z.2
          have hst := opF_s (mn := mn) (G := (gmF D a mn ot (E - 1))) (S := S) (show k < nN D by omega)
          have f61b : g2 117 61 = op := F2.1
          have f62b : g2 117 62 = 1 := F2.2
          refine z_il2 eX12_game_209 ?_
          refine z_il6 eX12_game_210 ?_
          refine z_ishr eX12_game_212 ?_
          refine z_ki eX12_game_213 ?_
          refine z_iand eX12_game_214 ?_
          rw [kb_bit (by omega) (by omega)]
          refine z_ki eX12_game_215 ?_
          refine z_cne eX12_game_216 rfl (fun c216 => ?_) (fun c216 => ?_)
          · refine z_incN6 eX12_game_225 zn0 (by omega) (by omega) ?_
            refine z_goto eX12_game_228 rfl ?_
            have tb : ¬ mn.testBit k = true := fun z => by rw [if_pos z] at c216; exact c216 rfl
            refine ih (r - 1) (by omega) (k + 1) g2 op (by omega) Hs2 hf2 f62b f61b (by omega) (Or.inr ⟨y, hinv2.1, ?_⟩)
            rw [hinv2.2, hst, if_neg (fun z => tb z.1)]
          · refine z_al0 eX12_game_219 ?_
            refine z_il6 eX12_game_220 ?_
            refine z_pi eX12_game_222 pX12_86 zs117 ?_
            refine z_incN6 eX12_game_225 zn0 (by omega) (by omega) ?_
            refine z_goto eX12_game_228 rfl ?_
            have tb : mn.testBit k = true := Classical.byContradiction (fun z => by rw [if_neg z] at c216; omega)
            refine ih (r - 1) (by omega) (k + 1) _ k (by omega) (Hs2.op (Or.inl rfl) _) (hf2.up (Or.inl rfl) _) ((zup_ne (by decide)).trans f62b) (zup_at _ _ _ _) (by omega) ?_
            have ec : cnd S (k : Int) = S ^^^ 2 ^ k := by unfold cnd; rw [if_neg (by omega)]; rfl
            rw [ec]
            cases z : (gmF D a mn ot (E - 1)) (S ^^^ 2 ^ k) with
            | true =>
              refine Or.inl ⟨rfl, ?_⟩
              unfold opn
              rw [hinv2.1, if_neg (by decide), hinv2.2, hst, if_pos ⟨tb, z⟩]
            | false =>
              refine Or.inr ⟨rfl, hinv2.1, ?_⟩
              rw [hinv2.2, hst, if_neg (fun w => by rw [z] at w; exact absurd w.2 (by decide))]
      · refine z_ki eX12_game_192 ?_
        refine z_goto eX12_game_193 rfl ?_
        refine z_ixor eX12_game_202 ?_
        rw [d2, show zxor (S : Int) 0 = ((cnd S op : Nat) : Int) by
          rw [show (0 : Int) = ((0 : Nat) : Int) from rfl, kb_xor (by omega) (by omega), Nat.xor_zero]
          unfold cnd
          rw [if_pos (by omega)]]
        refine zc_vi2 eX12_game_203 lX12_429 tX12_sure zs117 (by decide) (Nat.le_of_ble_eq_true rfl) (r_sure13 D hb a mn ot E hmn hot hE6 hE2 (E - 1) 1 (cnd S op) g (by omega) hcl Hs) ?_
        rintro _ g2 ⟨rfl, Hs2, hm2⟩ -
        have hf2 := hf.mf hm2
        have F2 : g2 117 61 = op ∧ g2 117 62 = 1 := by
          rw [hm2.1 4 (by omega) (by omega) (by simp) 117 61 rfl, hm2.1 4 (by omega) (by omega) (by simp) 117 62 rfl]
          exact ⟨f61, f62⟩
        refine z_ine eX12_game_206 rfl (fun c206 => ?_) (fun c206 => ?_)
        · refine z_ki eX12_game_231 ?_
          refine ze_i eX12_game_232 rfl ?_
          refine ⟨rfl, hf2, F2.2, ?_⟩
          have y := bI_1 c206
          rcases hinv with z | z
          · rw [F2.1, z.2]
          · rw [z.1] at y; cases y
        · have y := bI_0 c206
          have hinv2 : (gmF D a mn ot (E - 1)) S = false ∧ opF mn (gmF D a mn ot (E - 1)) S (nN D) 0 = opF mn (gmF D a mn ot (E - 1)) S (nN D - k) k := by
            rcases hinv with z | z
            · rw [z.1] at y; cases y
            · exact z.2
          have hst := opF_s (mn := mn) (G := (gmF D a mn ot (E - 1))) (S := S) (show k < nN D by omega)
          have f61b : g2 117 61 = op := F2.1
          have f62b : g2 117 62 = 1 := F2.2
          refine z_il2 eX12_game_209 ?_
          refine z_il6 eX12_game_210 ?_
          refine z_ishr eX12_game_212 ?_
          refine z_ki eX12_game_213 ?_
          refine z_iand eX12_game_214 ?_
          rw [kb_bit (by omega) (by omega)]
          refine z_ki eX12_game_215 ?_
          refine z_cne eX12_game_216 rfl (fun c216 => ?_) (fun c216 => ?_)
          · refine z_incN6 eX12_game_225 zn0 (by omega) (by omega) ?_
            refine z_goto eX12_game_228 rfl ?_
            have tb : ¬ mn.testBit k = true := fun z => by rw [if_pos z] at c216; exact c216 rfl
            refine ih (r - 1) (by omega) (k + 1) g2 op (by omega) Hs2 hf2 f62b f61b (by omega) (Or.inr ⟨y, hinv2.1, ?_⟩)
            rw [hinv2.2, hst, if_neg (fun z => tb z.1)]
          · refine z_al0 eX12_game_219 ?_
            refine z_il6 eX12_game_220 ?_
            refine z_pi eX12_game_222 pX12_86 zs117 ?_
            refine z_incN6 eX12_game_225 zn0 (by omega) (by omega) ?_
            refine z_goto eX12_game_228 rfl ?_
            have tb : mn.testBit k = true := Classical.byContradiction (fun z => by rw [if_neg z] at c216; omega)
            refine ih (r - 1) (by omega) (k + 1) _ k (by omega) (Hs2.op (Or.inl rfl) _) (hf2.up (Or.inl rfl) _) ((zup_ne (by decide)).trans f62b) (zup_at _ _ _ _) (by omega) ?_
            have ec : cnd S (k : Int) = S ^^^ 2 ^ k := by unfold cnd; rw [if_neg (by omega)]; rfl
            rw [ec]
            cases z : (gmF D a mn ot (E - 1)) (S ^^^ 2 ^ k) with
            | true =>
              refine Or.inl ⟨rfl, ?_⟩
              unfold opn
              rw [hinv2.1, if_neg (by decide), hinv2.2, hst, if_pos ⟨tb, z⟩]
            | false =>
              refine Or.inr ⟨rfl, hinv2.1, ?_⟩
              rw [hinv2.2, hst, if_neg (fun w => by rw [z] at w; exact absurd w.2 (by decide))]
theorem r_game_z (g : zHp) (a m o t al : Int) (Q : Int → zHp → Prop) (kE : zRW mX12_game 14 (0, 0) 110 [zA 117, zI a, zI m, zI o, zI t, zI al, zI (1792 : Nat)] [] 143 (zfill g 139 1792 0) (zqi Q)) : ∀ (r k : Nat), k + r = 1792 → zRW mX12_game 14 (0, 0) 88 [zA 117, zI a, zI m, zI o, zI t, zI al, zI k] [] 143 (zfill g 139 k 0) (zqi Q) := by
  intro r
  induction r using Nat.strongRecOn with
  | ind r ih =>
    intro k hk
    refine z_il6 eX12_game_88 ?_
    refine z_ki eX12_game_90 ?_
    refine z_cge eX12_game_93 rfl (fun c93 => ?_) (fun c93 => ?_)
    · have e : k = 1792 := by omega
      subst e
      exact kE
    · refine z_al0 eX12_game_96 ?_
      refine z_ga eX12_game_97 fX12_89 zs117 (t := 139) rfl ?_
      refine z_il6 eX12_game_100 ?_
      refine z_ki eX12_game_102 ?_
      refine zs_iN eX12_game_103 zs139 (j := k) (by omega) (by omega) ?_
      refine z_incN6 eX12_game_104 zn0 (by omega) (by omega) ?_
      refine z_goto eX12_game_107 rfl ?_
      rw [zfill_s]
      exact ih (r - 1) (by omega) (k + 1) (by omega)
theorem r_game (h : zHp) (D : Nat → Int) (hD : h 122 = D) (hb : dB D) (hst : D 2 < ((2 ^ nN D : Nat) : Int)) (a m o t : Int) : zCi mX12_game 14 [zA 117, zI a, zI m, zI o, zI t] h (fun v h' => pML [4] ((qGame D a m o t).1 = 1) h (qGame D a m o t) (fun g => g 117 62 = 1 ∧ g 117 61 = gO D a m o t) v h') := by
  refine z_enter [zA 117, zI a, zI m, zI o, zI t, zU, zU] (by decide +kernel) (Nat.le_of_ble_eq_true rfl) rfl (fun hra hrg => ?_)
  refine z_al0 eX12_game_0 ?_
  refine z_ki eX12_game_1 ?_
  refine z_pi eX12_game_2 pX12_98 zs117 ?_
  refine z_al0 eX12_game_5 ?_
  refine z_ki eX12_game_6 ?_
  refine z_pi eX12_game_7 pX12_101 zs117 ?_
  generalize hg : zup (zup h 117 1 0) 117 0 0 = g
  obtain ⟨ga, gf, g0⟩ := m_g hg
  have gD : g 122 = D := (ga 122 (by decide)).trans hD
  subst gD
  have hN := nN_eq hb
  have hS := nS_eq hb
  have hN8 := nN_le hb
  have hS20 := nS_le hb
  have hb2 := hb.2.2.1
  have h256 := p2le hN8
  have hpp := Nat.two_pow_pos (nN (g 122))
  have hS2 := stL hb hst
  refine z_ki eX12_game_10 ?_
  refine z_al0 eX12_game_11 ?_
  refine z_ga eX12_game_12 fX12_35 zs117 (t := 122) rfl ?_
  refine z_ki eX12_game_15 ?_
  refine zr_iN eX12_game_16 zs122 (j := 0) (by omega) (by omega) ?_
  rw [hN]
  refine z_ishl eX12_game_17 ?_
  rw [kb_shl1 (by omega)]
  refine z_ki eX12_game_18 ?_
  refine z_isubN eX12_game_19 (by omega) (by omega) ?_
  refine z_is5 eX12_game_20 zn0 ?_
  refine z_al0 eX12_game_22 ?_
  refine z_il1 eX12_game_23 ?_
  refine zc_vi1 eX12_game_24 lX12_278 tX12_isName zs117 (by decide) (Nat.le_of_ble_eq_true rfl) (r_isName _ _ rfl hb _) ?_
  rintro _ _ ⟨rfl, rfl⟩ -
  refine z_ieq eX12_game_27 rfl (fun c27 => ?_) (fun c27 => ?_)
  · have z27 := iteF c27
    refine z_al0 eX12_game_60 ?_
    refine z_ki eX12_game_61 ?_
    refine zc_vi1 eX12_game_62 lX12_275 tX12_refuse zs117 (by decide) (Nat.le_of_ble_eq_true rfl) (r_refuse _ _) ?_
    rintro _ _ ⟨rfl, rfl⟩ -
    refine ze_i eX12_game_65 rfl ?_
    have eq : qGame (g 122) a m o t = (-1, 2) := by unfold qGame; (repeat' split) <;> first | (exfalso; omega) | rfl
    exact pML_no hg zMf.rf eq (by rw [eq]; decide)
  · have z27 := iteT c27
    refine z_il2 eX12_game_30 ?_
    refine z_i2l eX12_game_31 ?_
    refine z_kj eX12_game_32 ?_
    refine z_il5 eX12_game_33 ?_
    refine z_i2l eX12_game_35 ?_
    refine zc_si3 eX12_game_36 lX12_133 tX12_isIn (by decide) (Nat.le_of_ble_eq_true rfl) (r_isIn _ _ _ _) ?_
    rintro _ _ ⟨rfl, rfl⟩ -
    refine z_ieq eX12_game_39 rfl (fun c39 => ?_) (fun c39 => ?_)
    · have z39 := iteF c39
      refine z_al0 eX12_game_60 ?_
      refine z_ki eX12_game_61 ?_
      refine zc_vi1 eX12_game_62 lX12_275 tX12_refuse zs117 (by decide) (Nat.le_of_ble_eq_true rfl) (r_refuse _ _) ?_
      rintro _ _ ⟨rfl, rfl⟩ -
      refine ze_i eX12_game_65 rfl ?_
      have eq : qGame (g 122) a m o t = (-1, 2) := by unfold qGame; (repeat' split) <;> first | (exfalso; omega) | rfl
      exact pML_no hg zMf.rf eq (by rw [eq]; decide)
    · have z39 := iteT c39
      refine z_il3 eX12_game_42 ?_
      refine z_i2l eX12_game_43 ?_
      refine z_kj eX12_game_44 ?_
      refine z_il5 eX12_game_45 ?_
      refine z_i2l eX12_game_47 ?_
      refine zc_si3 eX12_game_48 lX12_133 tX12_isIn (by decide) (Nat.le_of_ble_eq_true rfl) (r_isIn _ _ _ _) ?_
      rintro _ _ ⟨rfl, rfl⟩ -
      refine z_ieq eX12_game_51 rfl (fun c51 => ?_) (fun c51 => ?_)
      · have z51 := iteF c51
        refine z_al0 eX12_game_60 ?_
        refine z_ki eX12_game_61 ?_
        refine zc_vi1 eX12_game_62 lX12_275 tX12_refuse zs117 (by decide) (Nat.le_of_ble_eq_true rfl) (r_refuse _ _) ?_
        rintro _ _ ⟨rfl, rfl⟩ -
        refine ze_i eX12_game_65 rfl ?_
        have eq : qGame (g 122) a m o t = (-1, 2) := by unfold qGame; (repeat' split) <;> first | (exfalso; omega) | rfl
        exact pML_no hg zMf.rf eq (by rw [eq]; decide)
      · have z51 := iteT c51
        obtain ⟨m, rfl⟩ := Int.eq_ofNat_of_zero_le z39.1
        obtain ⟨o, rfl⟩ := Int.eq_ofNat_of_zero_le z51.1
        refine z_il2 eX12_game_54 ?_
        refine z_il3 eX12_game_55 ?_
        refine z_iand eX12_game_56 ?_
        rw [kb_and (by omega)]
        refine z_ieq eX12_game_57 rfl (fun c57 => ?_) (fun c57 => ?_)
        · refine z_il4 eX12_game_66 ?_
          refine z_i2l eX12_game_68 ?_
          refine z_kj eX12_game_69 ?_
          refine z_kj eX12_game_70 ?_
          refine zc_si3 eX12_game_73 lX12_133 tX12_isIn (by decide) (Nat.le_of_ble_eq_true rfl) (r_isIn _ _ _ _) ?_
          rintro _ _ ⟨rfl, rfl⟩ -
          refine z_ine eX12_game_76 rfl (fun c76 => ?_) (fun c76 => ?_)
          · have z76 := iteT c76
            obtain ⟨t, rfl⟩ := Int.eq_ofNat_of_zero_le (show 0 ≤ t by omega)
            have eq : qGame (g 122) a m o t = (bI (gmF (g 122) a m o (2 * t) (g 122 2).toNat), 0) := by
              unfold qGame
              rw [if_pos ⟨z27, by omega, by omega, by simp only [Int.toNat_natCast]; omega⟩, if_pos (by omega)]; rfl
            refine z_ki eX12_game_85 ?_
            refine z_is6 eX12_game_86 zn0 ?_
            have hz0 : zfill g 139 0 0 = g := zfill_0 g 139 0
            rw [← hz0]
            refine r_game_z g a m o t _ _ ?_ 1792 0 rfl
            rw [hz0]
            refine z_al0 eX12_game_110 ?_
            refine z_il1 eX12_game_111 ?_
            refine z_pi eX12_game_112 pX12_426 zs117 ?_
            refine z_al0 eX12_game_115 ?_
            refine z_il2 eX12_game_116 ?_
            refine z_pi eX12_game_117 pX12_432 zs117 ?_
            refine z_al0 eX12_game_120 ?_
            refine z_il3 eX12_game_121 ?_
            refine z_pi eX12_game_122 pX12_435 zs117 ?_
            refine z_al0 eX12_game_125 ?_
            refine z_ki eX12_game_126 ?_
            refine z_il4 eX12_game_127 ?_
            refine z_imulN eX12_game_129 (by omega) (by omega) ?_
            rw [show 2 * (t : Int) = ((2 * t : Nat) : Int) by omega]
            refine z_pi eX12_game_130 pX12_423 zs117 ?_
            refine z_al0 eX12_game_133 ?_
            refine zc_vv0 eX12_game_134 lX12_320 tX12_countAll zs117 (by decide) (Nat.le_of_ble_eq_true rfl) (r_countAll _ (g 122) (by rw [zup_off (by decide), zup_off (by decide), zup_off (by decide), zup_off (by decide), zfill_off (by decide)]) hb) ?_
            rintro _ rfl
            have Hs : sG (g 122) a m o (2 * t) (cA (zup (zup (zup (zup (zfill g 139 1792 0) 117 64 a) 117 65 m) 117 66 o) 117 67 ((2 * t : Nat) : Int)) (g 122) (nS (g 122)) (allV (g 122))) := by
              refine ⟨mW_cA (by rw [zup_off (by decide), zup_off (by decide), zup_off (by decide), zup_off (by decide), zfill_off (by decide)]), ⟨?_, ?_, ?_, ?_⟩, fun t' s ht' hs => Or.inl ?_⟩
              · rw [cA_f (by decide), zup_ne (by decide), zup_ne (by decide), zup_ne (by decide), zup_at]
              · rw [cA_f (by decide), zup_ne (by decide), zup_ne (by decide), zup_at]
              · rw [cA_f (by decide), zup_ne (by decide), zup_at]
              · rw [cA_f (by decide), zup_at]
              · rw [cA_off (by decide) (by decide), zup_off (by decide), zup_off (by decide), zup_off (by decide), zup_off (by decide), zfill_on (by omega)]
            have hmf : zMf g (cA (zup (zup (zup (zup (zfill g 139 1792 0) 117 64 a) 117 65 m) 117 66 o) 117 67 ((2 * t : Nat) : Int)) (g 122) (nS (g 122)) (allV (g 122))) := (((((zMf.rf.fr (c := 139) (fun b hb => zfill_off hb) (by decide) (fun _ => rfl)).up (by omega) (by omega) rfl).up (by omega) (by omega) rfl).up (by omega) (by omega) rfl).up (by omega) (by omega) rfl).cA _ _ _
            generalize cA (zup (zup (zup (zup (zfill g 139 1792 0) 117 64 a) 117 65 m) 117 66 o) 117 67 ((2 * t : Nat) : Int)) (g 122) (nS (g 122)) (allV (g 122)) = f1 at Hs hmf ⊢
            refine z_al0 eX12_game_137 ?_
            refine z_ki eX12_game_138 ?_
            refine z_al0 eX12_game_139 ?_
            refine z_ga eX12_game_140 fX12_35 zs117 (t := 122) rfl ?_
            refine z_ki eX12_game_143 ?_
            refine zr_iN eX12_game_144 zs122 (j := 2) (by omega) (by omega) ?_
            rw [show f1 122 2 = (((g 122 2).toNat : Nat) : Int) by rw [Hs.1.1]; exact stN hb]
            refine zc_vi2 eX12_game_145 lX12_429 tX12_sure zs117 (by decide) (Nat.le_of_ble_eq_true rfl) (r_sure13 (g 122) hb a m o (2 * t) (by omega) (by omega) (by omega) (by omega) (2 * t) 0 (g 122 2).toNat f1 (by omega) hS2 Hs) ?_
            rintro _ g2 ⟨rfl, Hs2, hm2⟩ -
            have hm3 := hmf.tr hm2
            refine z_ine eX12_game_148 rfl (fun c148 => ?_) (fun c148 => ?_)
            · have yb := bI_1 c148
              refine z_al0 eX12_game_153 ?_
              refine z_ki eX12_game_154 ?_
              refine z_pz eX12_game_155 pX12_438 zs117 (by first | exact Or.inl rfl | exact Or.inr rfl) ?_
              refine z_al0 eX12_game_158 ?_
              refine z_ki eX12_game_159 ?_
              refine z_pi eX12_game_160 pX12_86 zs117 ?_
              refine z_ki eX12_game_163 ?_
              refine z_is6 eX12_game_164 zn0 ?_
              have hor : orF m (gmF (g 122) a m o (2 * t - 1)) (g 122 2).toNat (nN (g 122)) = true := by
                have y2 := yb
                rw [show 2 * t = 2 * t - 1 + 1 by omega, gmF, if_pos (by omega)] at y2
                exact y2
              have hf4 : fM4 g (zup (zup g2 117 62 1) 117 61 (-1)) := (fM4.up (fM4.up ⟨hm3.1.wk (by simp), hm3.2.1, hm3.2.2⟩ (Or.inr rfl) _) (Or.inl rfl) _)
              refine z_wk ?_ (r_game_l (g 122) hb a m o (2 * t) (by omega) (by omega) (by omega) (by omega) (by omega) (g 122 2).toNat (stN hb) hS2 hor g _ _ (nN (g 122)) 0 _ (-1) (Nat.zero_add _) ((Hs2.op (Or.inr rfl) _).op (Or.inl rfl) _) hf4 (by rw [zup_ne (by decide), zup_at]) (zup_at _ _ _ _) (Or.inl rfl) ?_)
              · rintro _ _ h1 ⟨e1, v, e2, e3, e4, e5, e6⟩
                refine ⟨e1, v, e2, ?_⟩
                rw [yb] at eq
                rw [eq]
                exact ⟨e3, by rw [e4.2.2]; exact g0, fun b hb2 => (e4.2.1 b hb2).trans (ga b (by omega)), fun _ => ⟨zEx.tr (zEx.wk (by rw [← hg]; exact (zEx.rf.up (Or.inl rfl)).up (Or.inl rfl)) (L := []) (by simp)) e4.1, e5, e6⟩, fun z => absurd rfl z⟩
              · have ec : cnd (g 122 2).toNat (-1) = (g 122 2).toNat := if_pos (by omega)
                rw [ec]
                cases z : gmF (g 122) a m o (2 * t - 1) (g 122 2).toNat with
                | true => exact Or.inl ⟨rfl, if_pos z⟩
                | false => exact Or.inr ⟨rfl, rfl, rfl⟩
            · refine z_ki eX12_game_151 ?_
              refine ze_i eX12_game_152 rfl ?_
              have y := bI_0 c148
              rw [y] at eq
              exact pML_n0 hg hm3 eq (by rw [eq]; decide)
          · have z76 := iteF c76
            refine z_al0 eX12_game_79 ?_
            refine z_ki eX12_game_80 ?_
            refine zc_vi1 eX12_game_81 lX12_275 tX12_refuse zs117 (by decide) (Nat.le_of_ble_eq_true rfl) (r_refuse _ _) ?_
            rintro _ _ ⟨rfl, rfl⟩ -
            refine ze_i eX12_game_84 rfl ?_
            have eq : qGame (g 122) a m o t = (-1, 5) := by
              unfold qGame
              rw [if_pos ⟨z27, by omega, by omega, by simp only [Int.toNat_natCast]; omega⟩, if_neg (by omega)]
            exact pML_no hg zMf.rf eq (by rw [eq]; decide)
        · refine z_al0 eX12_game_60 ?_
          refine z_ki eX12_game_61 ?_
          refine zc_vi1 eX12_game_62 lX12_275 tX12_refuse zs117 (by decide) (Nat.le_of_ble_eq_true rfl) (r_refuse _ _) ?_
          rintro _ _ ⟨rfl, rfl⟩ -
          refine ze_i eX12_game_65 rfl ?_
          have eq : qGame (g 122) a m o t = (-1, 2) := by
            unfold qGame
            rw [if_neg (fun z => c57 (by have z4 := z.2.2.2; simp only [Int.toNat_natCast] at z4; rw [z4]; rfl))]
          exact pML_no hg zMf.rf eq (by rw [eq]; decide)
theorem rel_game {h h1 h2 : zHp} (H : Rel h) {q : Int × Int} {op v v' : Int} (hx : pXL [4] (q.1 = 1) h q (fun g => g 60 4 = 1 ∧ g 60 5 = op) v h1) (hm : pML [4] (q.1 = 1) h1 q (fun g => g 117 62 = 1 ∧ g 117 61 = op) v' h2) : rOut h v v' h2 := by
  obtain ⟨a1, a2, a3, a4, a5⟩ := hx
  obtain ⟨b1, b2, b3, b4, b5⟩ := hm
  by_cases c : q.1 = 1
  · have L := (a4 c).1.tr (b4 c).1
    refine ⟨by rw [← a1, ← b1], Rel.exL L (by rw [b3 0 (by omega), a2, b2]) H (by simp) (by simp) (by simp) (fun _ => ?_) (by simp) (by simp) (by simp) (by simp) (by simp), ex200 L (by simp)⟩
    unfold rOpen
    rw [b3 60 (by omega), (a4 c).2.1, (a4 c).2.2, (b4 c).2.1, (b4 c).2.2]
    exact ⟨rfl, fun _ => rfl⟩
  · exact H.tell2 ⟨a1, a2, a3, a5 c⟩ ⟨b1, b2, b3, b5 c⟩
