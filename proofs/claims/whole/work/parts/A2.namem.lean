-- the reference reads a name (written by wip/tools/specZ2.py)
theorem mR_sg {h0 h : zHp} {B : Nat → Int} {L q q0 : Nat} {D W : Nat → Int} {ht : Int} (hq : q0 ≤ q) (hqL : q ≤ L) (hd : dN D) (h1 : tkK B L q = 3 → mQ h0 B L (tkE B L q) D W ht h) (h2 : ¬ tkK B L q = 3 → mXs h0 (fK (tkK B L q) 2) (tkA B L q) h) : mR h0 B L q0 (sgF B L q D W ht) h := by
  unfold sgF
  by_cases z : tkK B L q = 3
  · rw [if_pos (sgK_b.2.2 z)]
    have kb := tk_b (B := B) hqL
    have k4 := kb.2.2.2.1 (by omega)
    exact ⟨by show q0 < tkE B L q; omega, h1 z, hd⟩
  · rw [if_neg (fun y => z (sgK_b.2.1 y))]
    have : sgK B L q = fK (tkK B L q) 2 := if_neg z
    rw [this]
    exact h2 z
theorem r_rn_s (h0 h : zHp) (B : Nat → Int) (L q q0 : Nat) (D W : Nat → Int) (ht : Int) (M : mQ h0 B L q D W ht h) (hd : dN D) (hq0 : q0 ≤ q) (a b : Int) : zRW mX12_readName 3 (0, 0) 224 [zA 117, zI a, zI b] [] 143 h (zqv (fun h' => mR h0 B L q0 (sgF B L q D W ht) h')) := by
  have t14 := M.T.1
  refine z_al0 eX12_readName_224 ?_
  refine z_al0 eX12_readName_225 ?_
  refine z_gi eX12_readName_226 fX12_149 zs117 ?_
  refine z_ki eX12_readName_229 ?_
  refine z_cne eX12_readName_230 rfl (fun c230 => ?_) (fun c230 => ?_)
  · refine z_ki eX12_readName_237 ?_
    refine zc_vv1 eX12_readName_238 lX12_238 tX12_must zs117 (by decide) (Nat.le_of_ble_eq_true rfl) (M.must _ (by first | exact Or.inl rfl | exact Or.inr rfl) (by omega)) ?_
    rintro g1 ⟨m1, m2⟩
    refine ze_v eX12_readName_241 rfl ?_
    exact mR_sg hq0 M.hq hd (fun z => by omega) (fun _ => m2 rfl)
  · refine z_ki eX12_readName_233 ?_
    refine z_goto eX12_readName_234 rfl ?_
    refine zc_vv1 eX12_readName_238 lX12_238 tX12_must zs117 (by decide) (Nat.le_of_ble_eq_true rfl) (M.must _ (by first | exact Or.inl rfl | exact Or.inr rfl) (by omega)) ?_
    rintro g1 ⟨m1, m2⟩
    refine ze_v eX12_readName_241 rfl ?_
    exact mR_sg hq0 M.hq hd (fun _ => m1 rfl) (fun z => by omega)
theorem r_rn_b (h0 h : zHp) (k : Int) (x : Nat) (X : mXs h0 k x h) (a b : Int) : zRW mX12_readName 3 (0, 0) 224 [zA 117, zI a, zI b] [] 143 h (zqv (fun h' => mXs h0 k x h')) := by
  refine z_al0 eX12_readName_224 ?_
  refine z_al0 eX12_readName_225 ?_
  refine z_gi eX12_readName_226 fX12_149 zs117 ?_
  refine z_ki eX12_readName_229 ?_
  refine z_cne eX12_readName_230 rfl (fun c230 => ?_) (fun c230 => ?_)
  · refine z_ki eX12_readName_237 ?_
    refine zc_vv1 eX12_readName_238 lX12_238 tX12_must zs117 (by decide) (Nat.le_of_ble_eq_true rfl) (r_mustB _ X.b _) ?_
    rintro _ rfl
    refine ze_v eX12_readName_241 rfl ?_
    exact X
  · refine z_ki eX12_readName_233 ?_
    refine z_goto eX12_readName_234 rfl ?_
    refine zc_vv1 eX12_readName_238 lX12_238 tX12_must zs117 (by decide) (Nat.le_of_ble_eq_true rfl) (r_mustB _ X.b _) ?_
    rintro _ rfl
    refine ze_v eX12_readName_241 rfl ?_
    exact X
theorem r_rn_o (h0 h : zHp) (B : Nat → Int) (L q q0 k : Nat) (D W : Nat → Int) (ht : Int) (M : mQ h0 B L q D W ht h) (hd : dN D) (hk : k < 8) (hq0 : q0 ≤ q) (e2 : z32 (D 2)) : zRW mX12_readName 3 (0, 0) 150 [zA 117, zI k, zU] [] 143 h (zqv (fun h' => mR h0 B L q0 (poF B L k q D W ht) h')) := by
  have kb := tk_b (B := B) M.hq
  refine z_al0 eX12_readName_150 ?_
  refine zc_vi0 eX12_readName_151 lX12_183 tX12_isOffWord zs117 (by decide) (Nat.le_of_ble_eq_true rfl) (r_kwOff _ B L _ M.hq M.T) ?_
  rintro _ _ ⟨rfl, rfl⟩ -
  refine z_is2 eX12_readName_154 zn0 ?_
  refine z_il2 eX12_readName_155 ?_
  refine z_ieq eX12_readName_156 rfl (fun c156 => ?_) (fun c156 => ?_)
  · have z156 := iteF c156
    refine z_al0 eX12_readName_163 ?_
    refine z_ga eX12_readName_164 fX12_35 zs117 (t := 122) rfl ?_
    refine z_ki eX12_readName_167 ?_
    refine z_dup2 eX12_readName_170 zn0 zn2 ?_
    refine zr_iN eX12_readName_171 zs122 (j := 1202) (by omega) (by omega) ?_
    refine z_il2 eX12_readName_172 ?_
    refine z_ieq eX12_readName_173 rfl (fun c173 => ?_) (fun c173 => ?_)
    · refine z_ki eX12_readName_180 ?_
      refine z_il1 eX12_readName_181 ?_
      refine z_ishl eX12_readName_182 ?_
      refine z_ior eX12_readName_183 ?_
      rw [show h 122 1202 = D 2 from M.c 2 (by omega)]
      refine zs_iN eX12_readName_184 zs122 (j := 1202) (by omega) (by omega) ?_
      refine z_al0 eX12_readName_185 ?_
      refine z_ga eX12_readName_186 fX12_35 zs117 (t := 122) rfl ?_
      refine z_ki eX12_readName_189 ?_
      refine z_il1 eX12_readName_192 ?_
      refine z_iaddN eX12_readName_193 (by omega) (by omega) ?_
      refine z_ki eX12_readName_194 ?_
      refine zs_iN eX12_readName_195 zs122 (j := 1200 + (3 + k)) (by omega) (by omega) ?_
      have hd6 : dN (up (up D 2 (zor (D 2) (zshl 1 k))) (3 + k) 1) := (hd.up (by omega) _).up (by omega) _
      have M6 := (M.up2 (i := 2) (zor (D 2) (zshl 1 k)) (by omega)).up2 (i := 3 + k) 1 (by omega)
      have kb3 := tk_b (B := B) M6.hq
      refine z_al0 eX12_readName_196 ?_
      refine zc_vi0 eX12_readName_197 lX12_186 tX12_isCostWord zs117 (by decide) (Nat.le_of_ble_eq_true rfl) (r_kwCost _ B L _ M6.hq M6.T) ?_
      rintro _ _ ⟨rfl, rfl⟩ -
      refine z_ieq eX12_readName_200 rfl (fun c200 => ?_) (fun c200 => ?_)
      · have z200 := iteF c200
        have eN : poF B L k q D W ht = coF B L k q (up (up D 2 (zor (D 2) (zshl 1 k))) (3 + k) 1) W ht := by unfold poF; rw [if_neg z156]
        rw [eN]
        unfold coF
        rw [if_neg z200]
        exact r_rn_s h0 _ B L q q0 (up (up D 2 (zor (D 2) (zshl 1 k))) (3 + k) 1) W ht M6 hd6 (by omega) _ _
      · have z200 := iteT c200
        refine z_al0 eX12_readName_203 ?_
        refine zc_vv0 eX12_readName_204 lX12_211 tX12_next zs117 (by decide) (Nat.le_of_ble_eq_true rfl) (M6.next (by omega)) ?_
        rintro g4 M7
        refine z_al0 eX12_readName_207 ?_
        refine z_ga eX12_readName_208 fX12_35 zs117 (t := 122) rfl ?_
        refine z_ki eX12_readName_211 ?_
        refine z_il1 eX12_readName_214 ?_
        refine z_iaddN eX12_readName_215 (by omega) (by omega) ?_
        refine z_al0 eX12_readName_216 ?_
        refine z_ki eX12_readName_217 ?_
        refine z_ki eX12_readName_218 ?_
        refine zc_vi2 eX12_readName_220 lX12_235 tX12_count zs117 (by decide) (Nat.le_of_ble_eq_true rfl) (M7.cnt 0 99) ?_
        rintro v1 g5 ⟨p1, p2⟩ -
        refine zs_iN eX12_readName_223 zs122 (j := 1200 + (3 + k)) (by omega) (by omega) ?_
        have eN : poF B L k q D W ht = coF B L k q (up (up D 2 (zor (D 2) (zshl 1 k))) (3 + k) 1) W ht := by unfold poF; rw [if_neg z156]
        rw [eN]
        unfold coF
        rw [if_pos z200]
        have kb7 := tk_b (B := B) M7.hq
        by_cases zn9 : nuK B L (tkE B L q) 0 99 = 0
        · rw [if_pos zn9, ← (p1 zn9).1]
          exact r_rn_s h0 _ B L _ q0 _ _ ht ((p1 zn9).2.up2 (i := 3 + k) _ (by omega)) (hd6.up (by omega) _) (by omega) _ _
        · rw [if_neg zn9]
          exact r_rn_b h0 _ _ _ ((p2 zn9).2.up2 (i := 3 + k) _ (by omega)) _ _
    · exact absurd c156 c173
  · have z156 := iteT c156
    refine z_al0 eX12_readName_159 ?_
    refine zc_vv0 eX12_readName_160 lX12_211 tX12_next zs117 (by decide) (Nat.le_of_ble_eq_true rfl) (M.next (by omega)) ?_
    rintro g3 M5
    refine z_al0 eX12_readName_163 ?_
    refine z_ga eX12_readName_164 fX12_35 zs117 (t := 122) rfl ?_
    refine z_ki eX12_readName_167 ?_
    refine z_dup2 eX12_readName_170 zn0 zn2 ?_
    refine zr_iN eX12_readName_171 zs122 (j := 1202) (by omega) (by omega) ?_
    refine z_il2 eX12_readName_172 ?_
    refine z_ieq eX12_readName_173 rfl (fun c173 => ?_) (fun c173 => ?_)
    · exact absurd c173 c156
    · refine z_ki eX12_readName_176 ?_
      refine z_goto eX12_readName_177 rfl ?_
      refine z_ior eX12_readName_183 ?_
      rw [show g3 122 1202 = D 2 from M5.c 2 (by omega), zor0 e2]
      refine zs_iN eX12_readName_184 zs122 (j := 1202) (by omega) (by omega) ?_
      refine z_al0 eX12_readName_185 ?_
      refine z_ga eX12_readName_186 fX12_35 zs117 (t := 122) rfl ?_
      refine z_ki eX12_readName_189 ?_
      refine z_il1 eX12_readName_192 ?_
      refine z_iaddN eX12_readName_193 (by omega) (by omega) ?_
      refine z_ki eX12_readName_194 ?_
      refine zs_iN eX12_readName_195 zs122 (j := 1200 + (3 + k)) (by omega) (by omega) ?_
      have hd6 : dN (up (up D 2 (D 2)) (3 + k) 1) := (hd.up (by omega) _).up (by omega) _
      have M6 := (M5.up2 (i := 2) (D 2) (by omega)).up2 (i := 3 + k) 1 (by omega)
      have kb3 := tk_b (B := B) M6.hq
      refine z_al0 eX12_readName_196 ?_
      refine zc_vi0 eX12_readName_197 lX12_186 tX12_isCostWord zs117 (by decide) (Nat.le_of_ble_eq_true rfl) (r_kwCost _ B L _ M6.hq M6.T) ?_
      rintro _ _ ⟨rfl, rfl⟩ -
      refine z_ieq eX12_readName_200 rfl (fun c200 => ?_) (fun c200 => ?_)
      · have z200 := iteF c200
        have eN : poF B L k q D W ht = coF B L k (tkE B L q) (up (up D 2 (D 2)) (3 + k) 1) W ht := by unfold poF; rw [if_pos z156]
        rw [eN]
        unfold coF
        rw [if_neg z200]
        exact r_rn_s h0 _ B L (tkE B L q) q0 (up (up D 2 (D 2)) (3 + k) 1) W ht M6 hd6 (by omega) _ _
      · have z200 := iteT c200
        refine z_al0 eX12_readName_203 ?_
        refine zc_vv0 eX12_readName_204 lX12_211 tX12_next zs117 (by decide) (Nat.le_of_ble_eq_true rfl) (M6.next (by omega)) ?_
        rintro g4 M7
        refine z_al0 eX12_readName_207 ?_
        refine z_ga eX12_readName_208 fX12_35 zs117 (t := 122) rfl ?_
        refine z_ki eX12_readName_211 ?_
        refine z_il1 eX12_readName_214 ?_
        refine z_iaddN eX12_readName_215 (by omega) (by omega) ?_
        refine z_al0 eX12_readName_216 ?_
        refine z_ki eX12_readName_217 ?_
        refine z_ki eX12_readName_218 ?_
        refine zc_vi2 eX12_readName_220 lX12_235 tX12_count zs117 (by decide) (Nat.le_of_ble_eq_true rfl) (M7.cnt 0 99) ?_
        rintro v1 g5 ⟨p1, p2⟩ -
        refine zs_iN eX12_readName_223 zs122 (j := 1200 + (3 + k)) (by omega) (by omega) ?_
        have eN : poF B L k q D W ht = coF B L k (tkE B L q) (up (up D 2 (D 2)) (3 + k) 1) W ht := by unfold poF; rw [if_pos z156]
        rw [eN]
        unfold coF
        rw [if_pos z200]
        have kb7 := tk_b (B := B) M7.hq
        by_cases zn9 : nuK B L (tkE B L (tkE B L q)) 0 99 = 0
        · rw [if_pos zn9, ← (p1 zn9).1]
          exact r_rn_s h0 _ B L _ q0 _ _ ht ((p1 zn9).2.up2 (i := 3 + k) _ (by omega)) (hd6.up (by omega) _) (by omega) _ _
        · rw [if_neg zn9]
          exact r_rn_b h0 _ _ _ ((p2 zn9).2.up2 (i := 3 + k) _ (by omega)) _ _
theorem r_readName (h0 h : zHp) (B : Nat → Int) (L q : Nat) (D W : Nat → Int) (ht : Int) (M : mQ h0 B L q D W ht h) (hd : dN D) (k1 : tkK B L q = 1) (hz : ht = 0 ∨ ht = 1) : zCv mX12_readName 3 [zA 117] h (fun h' => mR h0 B L q (nameF B L q D W ht) h') := by
  refine z_enter [zA 117, zU, zU] (by decide +kernel) (Nat.le_of_ble_eq_true rfl) rfl (fun hra hrg => ?_)
  have hb := M.hb
  have e1 : h 122 1201 = D 1 := M.c 1 (by omega)
  have e70 := M.t
  have hn := nN_dN hd
  have kb := tk_b (B := B) M.hq
  have e2 : z32 (D 2) := by rw [← M.c 2 (by omega)]; exact hrg 122 1202 20 1500 (by decide) rfl (by decide)
  refine z_al0 eX12_readName_0 ?_
  refine z_ga eX12_readName_1 fX12_35 zs117 (t := 122) rfl ?_
  refine z_ki eX12_readName_4 ?_
  refine zr_iN eX12_readName_7 zs122 (j := 1201) (by omega) (by omega) ?_
  refine z_igt eX12_readName_8 rfl (fun c8 => ?_) (fun c8 => ?_)
  · refine z_al0 eX12_readName_18 ?_
    refine z_ki eX12_readName_19 ?_
    refine z_al0 eX12_readName_21 ?_
    refine z_gi eX12_readName_22 fX12_143 zs117 ?_
    rw [M.T.2.1]
    refine zc_vv2 eX12_readName_25 lX12_207 tX12_fail zs117 (by decide) (Nat.le_of_ble_eq_true rfl) (M.fail 7 (by decide)) ?_
    rintro g1 X1
    have xb := X1.b
    refine z_al0 eX12_readName_28 ?_
    refine z_gi eX12_readName_29 fX12_201 zs117 ?_
    refine z_ile eX12_readName_32 rfl (fun c32 => ?_) (fun c32 => ?_)
    · exfalso; omega
    · refine ze_v eX12_readName_35 rfl ?_
      have eN : nameF B L q D W ht = .inl (7, tkA B L q) := by unfold nameF; rw [if_pos (by omega)]
      rw [eN]
      exact X1
  · refine z_al0 eX12_readName_11 ?_
    refine z_gi eX12_readName_12 fX12_224 zs117 ?_
    refine z_ieq eX12_readName_15 rfl (fun c15 => ?_) (fun c15 => ?_)
    · refine z_al0 eX12_readName_28 ?_
      refine z_gi eX12_readName_29 fX12_201 zs117 ?_
      refine z_ile eX12_readName_32 rfl (fun c32 => ?_) (fun c32 => ?_)
      · refine z_al0 eX12_readName_36 ?_
        refine zc_vv0 eX12_readName_37 lX12_211 tX12_next zs117 (by decide) (Nat.le_of_ble_eq_true rfl) (M.next (by omega)) ?_
        rintro g1 M1
        refine z_al0 eX12_readName_40 ?_
        refine zc_vi0 eX12_readName_41 lX12_228 tX12_isHallName zs117 (by decide) (Nat.le_of_ble_eq_true rfl) (r_isHall _ B L _ M1.hq M1.T) ?_
        rintro _ _ ⟨rfl, rfl⟩ -
        refine z_ine eX12_readName_44 rfl (fun c44 => ?_) (fun c44 => ?_)
        · have zn := b01T c44
          refine z_al0 eX12_readName_51 ?_
          refine z_gi eX12_readName_52 fX12_201 zs117 ?_
          refine z_ine eX12_readName_55 rfl (fun c55 => ?_) (fun c55 => ?_)
          · exact absurd M1.hb c55
          · refine z_al0 eX12_readName_58 ?_
            refine zc_vi0 eX12_readName_59 lX12_231 tX12_newName zs117 (by decide) (Nat.le_of_ble_eq_true rfl) (r_newName h0 g1 B L _ D W ht M1 hd zn.1 zn.2.1) ?_
            rintro _ _ ⟨rfl, rfl⟩ -
            have fb := fdF_b (W := W) (w := tkW B L (tkE B L q)) (nN D) 0
            refine z_ilt eX12_readName_62 rfl (fun c62 => ?_) (fun c62 => ?_)
            · refine z_al0 eX12_readName_74 ?_
              refine z_gi eX12_readName_75 fX12_201 zs117 ?_
              refine z_ine eX12_readName_78 rfl (fun c78 => ?_) (fun c78 => ?_)
              · exact absurd M1.hb c78
              · refine z_al0 eX12_readName_81 ?_
                refine z_ga eX12_readName_82 fX12_35 zs117 (t := 122) rfl ?_
                refine z_ki eX12_readName_85 ?_
                refine zr_iN eX12_readName_88 zs122 (j := 1200) (by omega) (by omega) ?_
                rw [show g1 122 1200 = D 0 from M1.c 0 (by omega)]
                refine z_ki eX12_readName_89 ?_
                refine z_cne eX12_readName_91 rfl (fun c91 => ?_) (fun c91 => ?_)
                · refine z_al0 eX12_readName_104 ?_
                  refine z_gi eX12_readName_105 fX12_201 zs117 ?_
                  refine z_ile eX12_readName_108 rfl (fun c108 => ?_) (fun c108 => ?_)
                  · refine z_al0 eX12_readName_112 ?_
                    refine z_ga eX12_readName_113 fX12_35 zs117 (t := 122) rfl ?_
                    refine z_ki eX12_readName_116 ?_
                    refine zr_iN eX12_readName_119 zs122 (j := 1200) (by omega) (by omega) ?_
                    rw [show g1 122 1200 = ((nN D : Nat) : Int) from (M1.c 0 (by omega)).trans hn.1]
                    refine z_is1 eX12_readName_120 zn2 ?_
                    refine z_al0 eX12_readName_121 ?_
                    refine z_ga eX12_readName_122 fX12_38 zs117 (t := 123) rfl ?_
                    refine z_ki eX12_readName_125 ?_
                    refine z_il1 eX12_readName_127 ?_
                    refine z_iaddN eX12_readName_128 (by omega) (by omega) ?_
                    refine z_al0 eX12_readName_129 ?_
                    refine z_gj eX12_readName_130 fX12_155 zs117 ?_
                    rw [((M1.T.2.2.1 zn.1).2 zn.2.1).1]
                    refine zs_lN eX12_readName_133 zs123 (j := 32 + nN D) (by omega) (by omega) ?_
                    have M2 := M1.up3 (i := nN D) (tkW B L (tkE B L q))
                    refine z_al0 eX12_readName_134 ?_
                    refine z_ga eX12_readName_135 fX12_35 zs117 (t := 122) rfl ?_
                    refine z_ki eX12_readName_138 ?_
                    refine z_dup2 eX12_readName_141 zn0 zn2 ?_
                    refine zr_iN eX12_readName_142 zs122 (j := 1200) (by omega) (by omega) ?_
                    rw [show zup g1 123 (32 + nN D) (tkW B L (tkE B L q)) 122 1200 = D 0 from M2.c 0 (by omega)]
                    refine z_ki eX12_readName_143 ?_
                    refine z_iaddN eX12_readName_144 (by omega) (by omega) ?_
                    refine zs_iN eX12_readName_145 zs122 (j := 1200) (by omega) (by omega) ?_
                    have M3 := M2.up2 (i := 0) (D 0 + 1) (by omega)
                    refine z_al0 eX12_readName_146 ?_
                    refine zc_vv0 eX12_readName_147 lX12_211 tX12_next zs117 (by decide) (Nat.le_of_ble_eq_true rfl) (M3.next (by have := zn.k; omega)) ?_
                    rintro g2 M4
                    have eN : nameF B L q D W ht = poF B L (nN D) (tkE B L (tkE B L q)) (up D 0 (D 0 + 1)) (up W (nN D) (tkW B L (tkE B L q))) ht := by unfold nameF; rw [if_neg (by omega), if_pos zn, if_pos (by omega), if_neg (by omega)]
                    rw [eN]
                    have kb1 := tk_b (B := B) M1.hq
                    exact r_rn_o h0 g2 B L _ q (nN D) _ _ ht M4 (by unfold dN; rw [up_at, up_ne (by decide)]; unfold dN at hd; omega) (by omega) (by omega) (by rw [up_ne (by decide)]; exact e2)
                  · exfalso; have := M1.hb; omega
                · refine z_al0 eX12_readName_94 ?_
                  refine z_ki eX12_readName_95 ?_
                  refine z_al0 eX12_readName_97 ?_
                  refine z_gi eX12_readName_98 fX12_143 zs117 ?_
                  rw [M1.T.2.1]
                  refine zc_vv2 eX12_readName_101 lX12_207 tX12_fail zs117 (by decide) (Nat.le_of_ble_eq_true rfl) (M1.fail 6 (by decide)) ?_
                  rintro g2 X1
                  have xb := X1.b
                  refine z_al0 eX12_readName_104 ?_
                  refine z_gi eX12_readName_105 fX12_201 zs117 ?_
                  refine z_ile eX12_readName_108 rfl (fun c108 => ?_) (fun c108 => ?_)
                  · exfalso; omega
                  · refine ze_v eX12_readName_111 rfl ?_
                    have eN : nameF B L q D W ht = .inl (6, tkA B L (tkE B L q)) := by unfold nameF; rw [if_neg (by omega), if_pos zn, if_pos (by omega), if_pos (by omega)]
                    rw [eN]
                    exact X1
            · refine z_al0 eX12_readName_65 ?_
              refine z_ki eX12_readName_66 ?_
              refine z_al0 eX12_readName_67 ?_
              refine z_gi eX12_readName_68 fX12_143 zs117 ?_
              rw [M1.T.2.1]
              refine zc_vv2 eX12_readName_71 lX12_207 tX12_fail zs117 (by decide) (Nat.le_of_ble_eq_true rfl) (M1.fail 3 (by decide)) ?_
              rintro g2 X1
              have xb := X1.b
              refine z_al0 eX12_readName_74 ?_
              refine z_gi eX12_readName_75 fX12_201 zs117 ?_
              refine z_ine eX12_readName_78 rfl (fun c78 => ?_) (fun c78 => ?_)
              · refine z_al0 eX12_readName_104 ?_
                refine z_gi eX12_readName_105 fX12_201 zs117 ?_
                refine z_ile eX12_readName_108 rfl (fun c108 => ?_) (fun c108 => ?_)
                · exfalso; omega
                · refine ze_v eX12_readName_111 rfl ?_
                  have eN : nameF B L q D W ht = .inl (3, tkA B L (tkE B L q)) := by unfold nameF; rw [if_neg (by omega), if_pos zn, if_neg (by omega)]
                  rw [eN]
                  exact X1
              · exfalso; omega
        · have zn := b01F c44
          refine z_al0 eX12_readName_47 ?_
          refine zc_vv0 eX12_readName_48 lX12_214 tX12_wrong zs117 (by decide) (Nat.le_of_ble_eq_true rfl) M1.wrong ?_
          rintro g2 X1
          have xb := X1.b
          refine z_al0 eX12_readName_51 ?_
          refine z_gi eX12_readName_52 fX12_201 zs117 ?_
          refine z_ine eX12_readName_55 rfl (fun c55 => ?_) (fun c55 => ?_)
          · refine z_al0 eX12_readName_74 ?_
            refine z_gi eX12_readName_75 fX12_201 zs117 ?_
            refine z_ine eX12_readName_78 rfl (fun c78 => ?_) (fun c78 => ?_)
            · refine z_al0 eX12_readName_104 ?_
              refine z_gi eX12_readName_105 fX12_201 zs117 ?_
              refine z_ile eX12_readName_108 rfl (fun c108 => ?_) (fun c108 => ?_)
              · exfalso; omega
              · refine ze_v eX12_readName_111 rfl ?_
                have eN : nameF B L q D W ht = .inl (fK (tkK B L (tkE B L q)) 2, tkA B L (tkE B L q)) := by unfold nameF; rw [if_neg (by omega), if_neg zn]
                rw [eN]
                exact X1
            · exfalso; omega
          · exfalso; omega
      · exfalso; omega
    · refine z_al0 eX12_readName_18 ?_
      refine z_ki eX12_readName_19 ?_
      refine z_al0 eX12_readName_21 ?_
      refine z_gi eX12_readName_22 fX12_143 zs117 ?_
      rw [M.T.2.1]
      refine zc_vv2 eX12_readName_25 lX12_207 tX12_fail zs117 (by decide) (Nat.le_of_ble_eq_true rfl) (M.fail 7 (by decide)) ?_
      rintro g1 X1
      have xb := X1.b
      refine z_al0 eX12_readName_28 ?_
      refine z_gi eX12_readName_29 fX12_201 zs117 ?_
      refine z_ile eX12_readName_32 rfl (fun c32 => ?_) (fun c32 => ?_)
      · exfalso; omega
      · refine ze_v eX12_readName_35 rfl ?_
        have eN : nameF B L q D W ht = .inl (7, tkA B L q) := by unfold nameF; rw [if_pos (by omega)]
        rw [eN]
        exact X1
