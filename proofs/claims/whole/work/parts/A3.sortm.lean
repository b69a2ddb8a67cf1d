-- the reference reads a sort, ties (written by wip/tools/specZ3.py)
theorem r_isWordW (h : zHp) (w : Int) : zCi mX12_isWord 0 [zA 117, zJ w] h (fun v h' => (v = 0 ∨ v = 1) ∧ h = h') := by
  refine z_enter [zA 117, zJ w, zU] (by decide +kernel) (Nat.le_of_ble_eq_true rfl) rfl (fun hra hrg => ?_)
  refine z_al0 eX12_isWord_0 ?_
  refine z_gi eX12_isWord_1 fX12_149 zs117 ?_
  refine z_ki eX12_isWord_4 ?_
  refine z_cne eX12_isWord_5 rfl (fun c5 => ?_) (fun c5 => ?_)
  · refine z_ki eX12_isWord_21 ?_
    refine ze_z eX12_isWord_22 rfl (by first | exact Or.inl rfl | exact Or.inr rfl) ?_
    exact ⟨by first | exact Or.inl rfl | exact Or.inr rfl, rfl⟩
  · refine z_al0 eX12_isWord_8 ?_
    refine z_gj eX12_isWord_9 fX12_155 zs117 ?_
    refine z_ll1 eX12_isWord_12 ?_
    refine z_lcmp eX12_isWord_13 ?_
    refine z_ine eX12_isWord_14 rfl (fun c14 => ?_) (fun c14 => ?_)
    · rw [zcmp_ne] at c14
      refine z_ki eX12_isWord_21 ?_
      refine ze_z eX12_isWord_22 rfl (by first | exact Or.inl rfl | exact Or.inr rfl) ?_
      exact ⟨by first | exact Or.inl rfl | exact Or.inr rfl, rfl⟩
    · rw [zcmp_ne] at c14
      refine z_ki eX12_isWord_17 ?_
      refine z_goto eX12_isWord_18 rfl ?_
      refine ze_z eX12_isWord_22 rfl (by first | exact Or.inl rfl | exact Or.inr rfl) ?_
      exact ⟨by first | exact Or.inl rfl | exact Or.inr rfl, rfl⟩
theorem r_kwOrderW (h : zHp) : zCi mX12_isOrderWord 1 [zA 117] h (fun v h' => (v = 0 ∨ v = 1) ∧ h = h') := by
  refine z_enter [zA 117] (by decide +kernel) (Nat.le_of_ble_eq_true rfl) rfl (fun hra hrg => ?_)
  refine z_al0 eX12_isOrderWord_0 ?_
  refine z_ki eX12_isOrderWord_1 ?_
  refine z_ki eX12_isOrderWord_3 ?_
  refine z_ki eX12_isOrderWord_5 ?_
  refine z_ki eX12_isOrderWord_7 ?_
  refine z_ki eX12_isOrderWord_9 ?_
  refine z_ki eX12_isOrderWord_11 ?_
  refine zc_sj6 eX12_isOrderWord_12 lX12_171 tX12_spelled (by decide) (Nat.le_of_ble_eq_true rfl) (r_spelled _ 111 114 100 101 114 0 (by decide)) ?_
  rintro _ _ ⟨rfl, rfl⟩ -
  refine zc_vi1 eX12_isOrderWord_15 lX12_175 tX12_isWord zs117 (by decide) (Nat.le_of_ble_eq_true rfl) (r_isWordW _ _) ?_
  rintro v1 _ ⟨v01, rfl⟩ -
  refine ze_z eX12_isOrderWord_18 rfl (by omega) ?_
  exact ⟨v01, rfl⟩
theorem kC_v : kC 0 = 460197 ∧ kC 1 = 15558 ∧ kC 2 = 114292 ∧ kC 3 = 638548 ∧ kC 4 = 16052 ∧ kC 5 = 16322738 ∧ kC 6 = 664755 := by decide +kernel
section
variable {B : Nat → Int} {L s : Nat} {W : Nat → Int} {ht : Int} {f : Nat} {o c : Int} {q : Nat} {D : Nat → Int}
theorem soF_x (h4 : ¬ isK B L q 4) (h2 : ¬ isK B L q 2) : soF B L s W ht (f + 1) o c q D = if isK B L q 5 then .inr (tkE B L q, D, W, ht) else .inl (fK (tkK B L q) 2, tkA B L q) := by rw [soF, if_neg h4, if_neg h2]
theorem soF_a5 (h4 : isK B L q 4) (h : o = 1) : soF B L s W ht (f + 1) o c q D = .inl (5, tkA B L q) := by rw [soF, if_neg (fun z => by have := kC_v; have := z.2; have := h4.2; omega), if_pos h4, if_pos h]
theorem soF_aN (h4 : isK B L q 4) (h : ¬ o = 1) (hn : ¬ nuK B L (tkE B L q) 0 99 = 0) : soF B L s W ht (f + 1) o c q D = .inl (nuK B L (tkE B L q) 0 99, tkA B L (tkE B L q)) := by rw [soF, if_neg (fun z => by have := kC_v; have := z.2; have := h4.2; omega), if_pos h4, if_neg h, if_neg hn]
theorem soF_aG (h4 : isK B L q 4) (h : ¬ o = 1) (hn : nuK B L (tkE B L q) 0 99 = 0) : soF B L s W ht (f + 1) o c q D = soF B L s W ht f 1 c (tkE B L (tkE B L q)) (up D (40 + s) (tkV B L (tkE B L q))) := by rw [soF, if_neg (fun z => by have := kC_v; have := z.2; have := h4.2; omega), if_pos h4, if_neg h, if_pos hn]
theorem soF_c5 (h2 : isK B L q 2) (h : c = 1) : soF B L s W ht (f + 1) o c q D = .inl (5, tkA B L q) := by rw [soF, if_neg (fun z => by have := kC_v; have := z.2; have := h2.2; omega), if_neg (fun z => by have := kC_v; have := z.2; have := h2.2; omega), if_pos h2, if_pos h]
theorem soF_cN (h2 : isK B L q 2) (h : ¬ c = 1) (hn : ¬ nuK B L (tkE B L q) 0 99 = 0) : soF B L s W ht (f + 1) o c q D = .inl (nuK B L (tkE B L q) 0 99, tkA B L (tkE B L q)) := by rw [soF, if_neg (fun z => by have := kC_v; have := z.2; have := h2.2; omega), if_neg (fun z => by have := kC_v; have := z.2; have := h2.2; omega), if_pos h2, if_neg h, if_neg hn]
theorem soF_cG (h2 : isK B L q 2) (h : ¬ c = 1) (hn : nuK B L (tkE B L q) 0 99 = 0) : soF B L s W ht (f + 1) o c q D = soF B L s W ht f o 1 (tkE B L (tkE B L q)) (up D (60 + s) (tkV B L (tkE B L q))) := by rw [soF, if_neg (fun z => by have := kC_v; have := z.2; have := h2.2; omega), if_neg (fun z => by have := kC_v; have := z.2; have := h2.2; omega), if_pos h2, if_neg h, if_pos hn]
end
noncomputable def soR (B : Nat → Int) (L N : Nat) (W : Nat → Int) (s : Nat) (ht : Int) (t : Nat × (Nat → Int) × (Nat → Int) × Int) : Rh := bnd (rowF B L N W (80 + 8 * s) ht 9 0 0 t.2.1 t.1) (fun u => .inr (u.1, up u.2.1 1 (u.2.1 1 + 1), W, ht))
theorem r_rs_b (h0 h : zHp) (k : Int) (a : Nat) (X : mXs h0 k a h) (s : Nat) (hs : s ≤ 20) (x y : Int) : zRW mX12_readSort 4 (0, 0) 222 [zA 117, zI s, zI x, zI y, zU] [] 143 h (zqv (fun h' => mXs h0 k a h')) := by
  refine z_al0 eX12_readSort_222 ?_
  refine z_ki eX12_readSort_223 ?_
  refine z_ki eX12_readSort_226 ?_
  refine z_il1 eX12_readSort_228 ?_
  refine z_imulN eX12_readSort_229 (by omega) (by omega) ?_
  refine z_iaddN eX12_readSort_230 (by omega) (by omega) ?_
  refine zc_vv1 eX12_readSort_231 lX12_242 tX12_readOrder zs117 (by decide) (Nat.le_of_ble_eq_true rfl) (r_rowB _ X.b _) ?_
  rintro _ rfl
  refine z_al0 eX12_readSort_234 ?_
  refine z_al0 eX12_readSort_235 ?_
  refine z_gi eX12_readSort_236 fX12_149 zs117 ?_
  refine z_ki eX12_readSort_239 ?_
  refine z_cne eX12_readSort_240 rfl (fun c240 => ?_) (fun c240 => ?_)
  · refine z_ki eX12_readSort_247 ?_
    refine zc_vv1 eX12_readSort_248 lX12_238 tX12_must zs117 (by decide) (Nat.le_of_ble_eq_true rfl) (r_mustB _ X.b _) ?_
    rintro _ rfl
    refine z_al0 eX12_readSort_251 ?_
    refine z_gi eX12_readSort_252 fX12_201 zs117 ?_
    refine z_ine eX12_readSort_255 rfl (fun c255 => ?_) (fun c255 => ?_)
    · refine ze_v eX12_readSort_270 rfl ?_
      exact X
    · have := X.b; omega
  · refine z_ki eX12_readSort_243 ?_
    refine z_goto eX12_readSort_244 rfl ?_
    refine zc_vv1 eX12_readSort_248 lX12_238 tX12_must zs117 (by decide) (Nat.le_of_ble_eq_true rfl) (r_mustB _ X.b _) ?_
    rintro _ rfl
    refine z_al0 eX12_readSort_251 ?_
    refine z_gi eX12_readSort_252 fX12_201 zs117 ?_
    refine z_ine eX12_readSort_255 rfl (fun c255 => ?_) (fun c255 => ?_)
    · refine ze_v eX12_readSort_270 rfl ?_
      exact X
    · have := X.b; omega
theorem r_rs_b1 (h0 h : zHp) (k : Int) (a : Nat) (X : mXs h0 k a h) (s : Nat) (hs : s ≤ 20) (x y : Int) : zRW mX12_readSort 4 (0, 0) 87 [zA 117, zI s, zI x, zI y, zU] [] 143 h (zqv (fun h' => mXs h0 k a h')) := by
  refine z_al0 eX12_readSort_87 ?_
  refine z_gi eX12_readSort_88 fX12_201 zs117 ?_
  refine z_ine eX12_readSort_91 rfl (fun c91 => ?_) (fun c91 => ?_)
  · refine z_al0 eX12_readSort_214 ?_
    refine z_al0 eX12_readSort_215 ?_
    refine zc_vi0 eX12_readSort_216 lX12_195 tX12_isOrderWord zs117 (by decide) (Nat.le_of_ble_eq_true rfl) (r_kwOrderW _) ?_
    rintro v1 _ ⟨v01, rfl⟩ -
    refine zc_vv1 eX12_readSort_219 lX12_238 tX12_must zs117 (by decide) (Nat.le_of_ble_eq_true rfl) (r_mustB _ X.b _) ?_
    rintro _ rfl
    exact r_rs_b h0 _ k a X s hs x y
  · have := X.b; omega
theorem r_rs_b0 (h0 h : zHp) (k : Int) (a : Nat) (X : mXs h0 k a h) (s : Nat) (hs : s < 20) : zRW mX12_readSort 4 (0, 0) 61 [zA 117, zI s, zU, zU, zU] [] 143 h (zqv (fun h' => mXs h0 k a h')) := by
  refine z_al0 eX12_readSort_61 ?_
  refine z_ga eX12_readSort_62 fX12_35 zs117 (t := 122) rfl ?_
  refine z_ki eX12_readSort_65 ?_
  refine z_il1 eX12_readSort_68 ?_
  refine z_iaddN eX12_readSort_69 (by omega) (by omega) ?_
  refine z_ki eX12_readSort_70 ?_
  refine zs_iN eX12_readSort_71 zs122 (j := 1200 + (40 + s)) (by omega) (by omega) ?_
  refine z_al0 eX12_readSort_72 ?_
  refine z_ga eX12_readSort_73 fX12_35 zs117 (t := 122) rfl ?_
  refine z_ki eX12_readSort_76 ?_
  refine z_il1 eX12_readSort_79 ?_
  refine z_iaddN eX12_readSort_80 (by omega) (by omega) ?_
  refine z_ki eX12_readSort_81 ?_
  refine zs_iN eX12_readSort_82 zs122 (j := 1200 + (60 + s)) (by omega) (by omega) ?_
  refine z_ki eX12_readSort_83 ?_
  refine z_is2 eX12_readSort_84 zn0 ?_
  refine z_ki eX12_readSort_85 ?_
  refine z_is3 eX12_readSort_86 zn0 ?_
  exact r_rs_b1 h0 _ k a ((X.up2 (i := 40 + s) _ (by omega)).up2 (i := 60 + s) _ (by omega)) s (by omega) 0 0
theorem r_rs_b3 (h0 h : zHp) (k : Int) (a : Nat) (X : mXs h0 k a h) (s : Nat) (x y : Int) : zRW mX12_readSort 4 (0, 0) 234 [zA 117, zI s, zI x, zI y, zU] [] 143 h (zqv (fun h' => mXs h0 k a h')) := by
  refine z_al0 eX12_readSort_234 ?_
  refine z_al0 eX12_readSort_235 ?_
  refine z_gi eX12_readSort_236 fX12_149 zs117 ?_
  refine z_ki eX12_readSort_239 ?_
  refine z_cne eX12_readSort_240 rfl (fun c240 => ?_) (fun c240 => ?_)
  · refine z_ki eX12_readSort_247 ?_
    refine zc_vv1 eX12_readSort_248 lX12_238 tX12_must zs117 (by decide) (Nat.le_of_ble_eq_true rfl) (r_mustB _ X.b _) ?_
    rintro _ rfl
    refine z_al0 eX12_readSort_251 ?_
    refine z_gi eX12_readSort_252 fX12_201 zs117 ?_
    refine z_ine eX12_readSort_255 rfl (fun c255 => ?_) (fun c255 => ?_)
    · refine ze_v eX12_readSort_270 rfl ?_
      exact X
    · have := X.b; omega
  · refine z_ki eX12_readSort_243 ?_
    refine z_goto eX12_readSort_244 rfl ?_
    refine zc_vv1 eX12_readSort_248 lX12_238 tX12_must zs117 (by decide) (Nat.le_of_ble_eq_true rfl) (r_mustB _ X.b _) ?_
    rintro _ rfl
    refine z_al0 eX12_readSort_251 ?_
    refine z_gi eX12_readSort_252 fX12_201 zs117 ?_
    refine z_ine eX12_readSort_255 rfl (fun c255 => ?_) (fun c255 => ?_)
    · refine ze_v eX12_readSort_270 rfl ?_
      exact X
    · have := X.b; omega
theorem r_rs_e1 (h0 h : zHp) (B : Nat → Int) (L q : Nat) (D W : Nat → Int) (ht : Int) (M : mQ h0 B L q D W ht h) (hd : dN D) (hd1 : D 1 < 20) (s : Nat) (x y : Int) (z3 : tkK B L q = 3) {Q : zHp → Prop} (hQ : ∀ g, mQ h0 B L (tkE B L q) (up D 1 (D 1 + 1)) W ht g → Q g) : zRW mX12_readSort 4 (0, 0) 234 [zA 117, zI s, zI x, zI y, zU] [] 143 h (zqv Q) := by
  have t14 := M.T.1
  unfold dN at hd
  refine z_al0 eX12_readSort_234 ?_
  refine z_al0 eX12_readSort_235 ?_
  refine z_gi eX12_readSort_236 fX12_149 zs117 ?_
  refine z_ki eX12_readSort_239 ?_
  refine z_cne eX12_readSort_240 rfl (fun c240 => ?_) (fun c240 => ?_)
  · omega
  · refine z_ki eX12_readSort_243 ?_
    refine z_goto eX12_readSort_244 rfl ?_
    refine zc_vv1 eX12_readSort_248 lX12_238 tX12_must zs117 (by decide) (Nat.le_of_ble_eq_true rfl) (M.must _ (by first | exact Or.inl rfl | exact Or.inr rfl) (by omega)) ?_
    rintro g1 ⟨m1, m2⟩
    have M1 := m1 rfl
    have b1 := M1.hb
    refine z_al0 eX12_readSort_251 ?_
    refine z_gi eX12_readSort_252 fX12_201 zs117 ?_
    refine z_ine eX12_readSort_255 rfl (fun c255 => ?_) (fun c255 => ?_)
    · exact absurd b1 c255
    · refine z_al0 eX12_readSort_258 ?_
      refine z_ga eX12_readSort_259 fX12_35 zs117 (t := 122) rfl ?_
      refine z_ki eX12_readSort_262 ?_
      refine z_dup2 eX12_readSort_265 zn0 zn2 ?_
      refine zr_iN eX12_readSort_266 zs122 (j := 1201) (by omega) (by omega) ?_
      rw [show g1 122 1201 = D 1 from M1.c 1 (by omega)]
      refine z_ki eX12_readSort_267 ?_
      refine z_iaddN eX12_readSort_268 (by omega) (by omega) ?_
      refine zs_iN eX12_readSort_269 zs122 (j := 1201) (by omega) (by omega) ?_
      refine ze_v eX12_readSort_270 rfl ?_
      exact hQ _ (M1.up2 (i := 1) _ (by omega))
theorem r_rs_e2 (h0 h : zHp) (B : Nat → Int) (L q : Nat) (D W : Nat → Int) (ht : Int) (M : mQ h0 B L q D W ht h) (hd : dN D) (hd1 : D 1 < 20) (s : Nat) (x y : Int) (z3 : ¬ tkK B L q = 3) : zRW mX12_readSort 4 (0, 0) 234 [zA 117, zI s, zI x, zI y, zU] [] 143 h (zqv (fun h' => mXs h0 (fK (tkK B L q) 2) (tkA B L q) h')) := by
  have t14 := M.T.1
  refine z_al0 eX12_readSort_234 ?_
  refine z_al0 eX12_readSort_235 ?_
  refine z_gi eX12_readSort_236 fX12_149 zs117 ?_
  refine z_ki eX12_readSort_239 ?_
  refine z_cne eX12_readSort_240 rfl (fun c240 => ?_) (fun c240 => ?_)
  · refine z_ki eX12_readSort_247 ?_
    refine zc_vv1 eX12_readSort_248 lX12_238 tX12_must zs117 (by decide) (Nat.le_of_ble_eq_true rfl) (M.must _ (by first | exact Or.inl rfl | exact Or.inr rfl) (by omega)) ?_
    rintro g1 ⟨m1, m2⟩
    have X1 := m2 rfl
    have xb := X1.b
    refine z_al0 eX12_readSort_251 ?_
    refine z_gi eX12_readSort_252 fX12_201 zs117 ?_
    refine z_ine eX12_readSort_255 rfl (fun c255 => ?_) (fun c255 => ?_)
    · refine ze_v eX12_readSort_270 rfl ?_
      exact X1
    · exfalso; omega
  · omega
theorem r_rs_r (h0 h : zHp) (B : Nat → Int) (L q q0 N : Nat) (D W : Nat → Int) (ht : Int) (M : mQ h0 B L q D W ht h) (hd : dN D) (hN : D 0 = (N : Int)) (s : Nat) (hs : D 1 = (s : Int)) (hs20 : s < 20) (x y : Int) (hq0 : q0 ≤ q) : zRW mX12_readSort 4 (0, 0) 222 [zA 117, zI s, zI x, zI y, zU] [] 143 h (zqv (fun h' => mR h0 B L q0 (soR B L N W s ht (q, D, W, ht)) h')) := by
  have enN : nN D = N := by unfold nN; omega
  refine z_al0 eX12_readSort_222 ?_
  refine z_ki eX12_readSort_223 ?_
  refine z_ki eX12_readSort_226 ?_
  refine z_il1 eX12_readSort_228 ?_
  refine z_imulN eX12_readSort_229 (by omega) (by omega) ?_
  refine z_iaddN eX12_readSort_230 (by omega) (by omega) ?_
  rw [show (1280 : Int) + 8 * (s : Int) = ((1200 + (80 + 8 * s) : Nat) : Int) by omega]
  refine zc_vv1 eX12_readSort_231 lX12_242 tX12_readOrder zs117 (by decide) (Nat.le_of_ble_eq_true rfl) (r_row h0 h B L q D W ht M hd (80 + 8 * s) (by omega)) ?_
  rintro g1 R1
  rw [enN] at R1
  show zRW _ _ _ _ _ _ _ _ (zqv (fun h' => mR h0 B L q0 (bnd (rowF B L N W (80 + 8 * s) ht 9 0 0 D q) (fun u => .inr (u.1, up u.2.1 1 (u.2.1 1 + 1), W, ht))) h'))
  rcases R1 with ⟨k, a, eR, X1⟩ | ⟨q2, D2, hq2, M2, ha2, h3, hn3⟩
  · rw [eR]
    exact r_rs_b3 h0 g1 k a X1 s x y
  · have d20 : D2 0 = D 0 := ha2 0 (by omega)
    have d21 : D2 1 = D 1 := ha2 1 (by omega)
    have hd2 : dN D2 := by unfold dN; rw [d20, d21]; exact hd
    have kb2 := tk_b (B := B) M2.hq
    by_cases z3 : tkK B L q2 = 3
    · rw [(h3 z3).1]
      refine r_rs_e1 h0 g1 B L q2 D2 W ht M2 hd2 (by omega) s x y z3 (fun g M => ⟨?_, M, ?_⟩)
      · show q0 < tkE B L q2
        have := kb2.2.2.2.1 (by omega)
        omega
      · show dN (up D2 1 (D2 1 + 1))
        unfold dN
        rw [up_ne (by decide), up_at]
        unfold dN at hd2
        omega
    · rw [hn3 z3]
      exact r_rs_e2 h0 g1 B L q2 D2 W ht M2 hd2 (by omega) s x y z3
theorem r_rs_o (h0 h : zHp) (B : Nat → Int) (L q q0 N : Nat) (D W : Nat → Int) (ht : Int) (M : mQ h0 B L q D W ht h) (hd : dN D) (hN : D 0 = (N : Int)) (s : Nat) (hs : D 1 = (s : Int)) (hs20 : s < 20) (x y : Int) (hq0 : q0 ≤ q) : zRW mX12_readSort 4 (0, 0) 214 [zA 117, zI s, zI x, zI y, zU] [] 143 h (zqv (fun h' => mR h0 B L q0 (bnd (if isK B L q 5 then .inr (tkE B L q, D, W, ht) else .inl (fK (tkK B L q) 2, tkA B L q)) (soR B L N W s ht)) h')) := by
  have kb := tk_b (B := B) M.hq
  have enN : nN D = N := by unfold nN; omega
  have m01 : ∀ P : Prop, ∀ [Decidable P], (if P then (1 : Int) else 0) = 0 ∨ (if P then (1 : Int) else 0) = 1 := fun P _ => by split; exact Or.inr rfl; exact Or.inl rfl
  refine z_al0 eX12_readSort_214 ?_
  refine z_al0 eX12_readSort_215 ?_
  refine zc_vi0 eX12_readSort_216 lX12_195 tX12_isOrderWord zs117 (by decide) (Nat.le_of_ble_eq_true rfl) (r_kwOrder _ B L _ M.hq M.T) ?_
  rintro _ _ ⟨rfl, rfl⟩ -
  refine zc_vv1 eX12_readSort_219 lX12_238 tX12_must zs117 (by decide) (Nat.le_of_ble_eq_true rfl) (M.must _ (m01 _) (fun z z4 => by rw [if_neg (by omega)] at z; omega)) ?_
  rintro g1 ⟨m1, m2⟩
  by_cases z5 : isK B L q 5
  · have M1 := m1 (if_pos z5)
    rw [if_pos z5]
    exact r_rs_r h0 g1 B L (tkE B L q) q0 N D W ht M1 hd hN s hs hs20 x y (by omega)
  · have X1 := m2 (if_neg z5)
    rw [if_neg z5]
    exact r_rs_b h0 g1 _ _ X1 s (by omega) x y
theorem r_rs_l (h0 : zHp) (B : Nat → Int) (L q0 N : Nat) (W : Nat → Int) (ht : Int) (s : Nat) (hs20 : s < 20) : ∀ (f : Nat) (x y : Int) (q : Nat) (D : Nat → Int) (h : zHp), (x = 0 ∨ x = 1) → (y = 0 ∨ y = 1) → x + y + (f : Int) = 3 → mQ h0 B L q D W ht h → dN D → D 0 = (N : Int) → D 1 = (s : Int) → q0 ≤ q → zRW mX12_readSort 4 (0, 0) 87 [zA 117, zI s, zI x, zI y, zU] [] 143 h (zqv (fun h' => mR h0 B L q0 (bnd (soF B L s W ht f x y q D) (soR B L N W s ht)) h')) := by
  intro f
  induction f with
  | zero => intro x y q D h hx hy hf; omega
  | succ f ih =>
    intro x y q D h hx hy hf M hd hN hs hq0
    have kb := tk_b (B := B) M.hq
    have hb := M.hb
    have kv := kC_v
    refine z_al0 eX12_readSort_87 ?_
    refine z_gi eX12_readSort_88 fX12_201 zs117 ?_
    refine z_ine eX12_readSort_91 rfl (fun c91 => ?_) (fun c91 => ?_)
    · exact absurd hb c91
    · refine z_al0 eX12_readSort_94 ?_
      refine zc_vi0 eX12_readSort_95 lX12_192 tX12_isOutWord zs117 (by decide) (Nat.le_of_ble_eq_true rfl) (r_kwOut _ B L _ M.hq M.T) ?_
      rintro _ _ ⟨rfl, rfl⟩ -
      refine z_ine eX12_readSort_98 rfl (fun c98 => ?_) (fun c98 => ?_)
      · have z98 := iteT c98
        refine z_al0 eX12_readSort_108 ?_
        refine zc_vi0 eX12_readSort_109 lX12_192 tX12_isOutWord zs117 (by decide) (Nat.le_of_ble_eq_true rfl) (r_kwOut _ B L _ M.hq M.T) ?_
        rintro _ _ ⟨rfl, rfl⟩ -
        refine z_is4 eX12_readSort_112 zn0 ?_
        refine z_il4 eX12_readSort_114 ?_
        refine z_ieq eX12_readSort_116 rfl (fun c116 => ?_) (fun c116 => ?_)
        · exact absurd c116 c98
        · refine z_il2 eX12_readSort_119 ?_
          refine z_ieq eX12_readSort_120 rfl (fun c120 => ?_) (fun c120 => ?_)
          · refine z_al0 eX12_readSort_139 ?_
            refine z_gi eX12_readSort_140 fX12_201 zs117 ?_
            refine z_ile eX12_readSort_143 rfl (fun c143 => ?_) (fun c143 => ?_)
            · refine z_il2 eX12_readSort_147 ?_
              refine z_ine eX12_readSort_148 rfl (fun c148 => ?_) (fun c148 => ?_)
              · exact absurd c120 c148
              · refine z_il4 eX12_readSort_151 ?_
                refine z_ieq eX12_readSort_153 rfl (fun c153 => ?_) (fun c153 => ?_)
                · exact absurd c153 c98
                · refine z_ki eX12_readSort_156 ?_
                  refine z_goto eX12_readSort_157 rfl ?_
                  refine z_is2 eX12_readSort_161 zn0 ?_
                  refine z_il3 eX12_readSort_162 ?_
                  refine z_ine eX12_readSort_163 rfl (fun c163 => ?_) (fun c163 => ?_)
                  · refine z_ki eX12_readSort_171 ?_
                    refine z_goto eX12_readSort_172 rfl ?_
                    refine z_is3 eX12_readSort_176 zn0 ?_
                    refine z_al0 eX12_readSort_177 ?_
                    refine zc_vv0 eX12_readSort_178 lX12_211 tX12_next zs117 (by decide) (Nat.le_of_ble_eq_true rfl) (M.next (by omega)) ?_
                    rintro g1 M1
                    refine z_al0 eX12_readSort_181 ?_
                    refine z_ga eX12_readSort_182 fX12_35 zs117 (t := 122) rfl ?_
                    refine z_ki eX12_readSort_185 ?_
                    refine z_il4 eX12_readSort_188 ?_
                    refine z_ieq eX12_readSort_190 rfl (fun c190 => ?_) (fun c190 => ?_)
                    · exact absurd c190 c98
                    · refine z_ki eX12_readSort_193 ?_
                      refine z_goto eX12_readSort_195 rfl ?_
                      refine z_iaddN eX12_readSort_200 (by omega) (by omega) ?_
                      refine z_il1 eX12_readSort_201 ?_
                      refine z_iaddN eX12_readSort_202 (by omega) (by omega) ?_
                      refine z_al0 eX12_readSort_203 ?_
                      refine z_ki eX12_readSort_204 ?_
                      refine z_ki eX12_readSort_205 ?_
                      refine zc_vi2 eX12_readSort_207 lX12_235 tX12_count zs117 (by decide) (Nat.le_of_ble_eq_true rfl) (M1.cnt 0 99) ?_
                      rintro v1 g2 ⟨p1, p2⟩ -
                      refine zs_iN eX12_readSort_210 zs122 (j := 1200 + (40 + s)) (by omega) (by omega) ?_
                      refine z_goto eX12_readSort_211 rfl ?_
                      refine z_fg4 ?_
                      have kb1 := tk_b (B := B) M1.hq
                      have ey : y = 1 := by omega
                      subst ey
                      by_cases zn9 : nuK B L (tkE B L q) 0 99 = 0
                      · rw [soF_aG z98 (by omega) zn9, ← (p1 zn9).1]
                        exact ih _ _ _ _ _ (by omega) (by omega) (by omega) ((p1 zn9).2.up2 (i := 40 + s) _ (by omega)) (hd.up (by omega) _) (by rw [up_ne (by omega)]; exact hN) (by rw [up_ne (by omega)]; exact hs) (by omega)
                      · rw [soF_aN z98 (by omega) zn9]
                        exact r_rs_b1 h0 _ _ _ ((p2 zn9).2.up2 (i := 40 + s) _ (by omega)) s (by omega) _ _
                  · refine z_il4 eX12_readSort_166 ?_
                    refine z_ine eX12_readSort_168 rfl (fun c168 => ?_) (fun c168 => ?_)
                    · refine z_ki eX12_readSort_175 ?_
                      refine z_is3 eX12_readSort_176 zn0 ?_
                      refine z_al0 eX12_readSort_177 ?_
                      refine zc_vv0 eX12_readSort_178 lX12_211 tX12_next zs117 (by decide) (Nat.le_of_ble_eq_true rfl) (M.next (by omega)) ?_
                      rintro g1 M1
                      refine z_al0 eX12_readSort_181 ?_
                      refine z_ga eX12_readSort_182 fX12_35 zs117 (t := 122) rfl ?_
                      refine z_ki eX12_readSort_185 ?_
                      refine z_il4 eX12_readSort_188 ?_
                      refine z_ieq eX12_readSort_190 rfl (fun c190 => ?_) (fun c190 => ?_)
                      · exact absurd c190 c98
                      · refine z_ki eX12_readSort_193 ?_
                        refine z_goto eX12_readSort_195 rfl ?_
                        refine z_iaddN eX12_readSort_200 (by omega) (by omega) ?_
                        refine z_il1 eX12_readSort_201 ?_
                        refine z_iaddN eX12_readSort_202 (by omega) (by omega) ?_
                        refine z_al0 eX12_readSort_203 ?_
                        refine z_ki eX12_readSort_204 ?_
                        refine z_ki eX12_readSort_205 ?_
                        refine zc_vi2 eX12_readSort_207 lX12_235 tX12_count zs117 (by decide) (Nat.le_of_ble_eq_true rfl) (M1.cnt 0 99) ?_
                        rintro v1 g2 ⟨p1, p2⟩ -
                        refine zs_iN eX12_readSort_210 zs122 (j := 1200 + (40 + s)) (by omega) (by omega) ?_
                        refine z_goto eX12_readSort_211 rfl ?_
                        refine z_fg4 ?_
                        have kb1 := tk_b (B := B) M1.hq
                        have ey : y = 0 := by omega
                        subst ey
                        by_cases zn9 : nuK B L (tkE B L q) 0 99 = 0
                        · rw [soF_aG z98 (by omega) zn9, ← (p1 zn9).1]
                          exact ih _ _ _ _ _ (by omega) (by omega) (by omega) ((p1 zn9).2.up2 (i := 40 + s) _ (by omega)) (hd.up (by omega) _) (by rw [up_ne (by omega)]; exact hN) (by rw [up_ne (by omega)]; exact hs) (by omega)
                        · rw [soF_aN z98 (by omega) zn9]
                          exact r_rs_b1 h0 _ _ _ ((p2 zn9).2.up2 (i := 40 + s) _ (by omega)) s (by omega) _ _
                    · exact absurd c168 c98
            · exfalso; omega
          · refine z_goto eX12_readSort_123 rfl ?_
            refine z_al0 eX12_readSort_130 ?_
            refine z_ki eX12_readSort_131 ?_
            refine z_al0 eX12_readSort_132 ?_
            refine z_gi eX12_readSort_133 fX12_143 zs117 ?_
            rw [M.T.2.1]
            refine zc_vv2 eX12_readSort_136 lX12_207 tX12_fail zs117 (by decide) (Nat.le_of_ble_eq_true rfl) (M.fail 5 (by decide)) ?_
            rintro g1 X1
            have xb := X1.b
            refine z_al0 eX12_readSort_139 ?_
            refine z_gi eX12_readSort_140 fX12_201 zs117 ?_
            refine z_ile eX12_readSort_143 rfl (fun c143 => ?_) (fun c143 => ?_)
            · exfalso; omega
            · refine ze_v eX12_readSort_146 rfl ?_
              have eR := soF_a5 (B := B) (L := L) (s := s) (W := W) (ht := ht) (f := f) (o := x) (c := y) (q := q) (D := D) z98 (by omega)
              rw [eR]
              exact X1
      · have z98 := iteF c98
        refine z_al0 eX12_readSort_101 ?_
        refine zc_vi0 eX12_readSort_102 lX12_186 tX12_isCostWord zs117 (by decide) (Nat.le_of_ble_eq_true rfl) (r_kwCost _ B L _ M.hq M.T) ?_
        rintro _ _ ⟨rfl, rfl⟩ -
        refine z_ieq eX12_readSort_105 rfl (fun c105 => ?_) (fun c105 => ?_)
        · have z105 := iteF c105
          rw [soF_x z98 z105]
          exact r_rs_o h0 h B L q q0 N D W ht M hd hN s hs hs20 x y hq0
        · have z105 := iteT c105
          refine z_al0 eX12_readSort_108 ?_
          refine zc_vi0 eX12_readSort_109 lX12_192 tX12_isOutWord zs117 (by decide) (Nat.le_of_ble_eq_true rfl) (r_kwOut _ B L _ M.hq M.T) ?_
          rintro _ _ ⟨rfl, rfl⟩ -
          refine z_is4 eX12_readSort_112 zn0 ?_
          refine z_il4 eX12_readSort_114 ?_
          refine z_ieq eX12_readSort_116 rfl (fun c116 => ?_) (fun c116 => ?_)
          · refine z_il3 eX12_readSort_126 ?_
            refine z_ieq eX12_readSort_127 rfl (fun c127 => ?_) (fun c127 => ?_)
            · refine z_al0 eX12_readSort_139 ?_
              refine z_gi eX12_readSort_140 fX12_201 zs117 ?_
              refine z_ile eX12_readSort_143 rfl (fun c143 => ?_) (fun c143 => ?_)
              · refine z_il2 eX12_readSort_147 ?_
                refine z_ine eX12_readSort_148 rfl (fun c148 => ?_) (fun c148 => ?_)
                · refine z_ki eX12_readSort_156 ?_
                  refine z_goto eX12_readSort_157 rfl ?_
                  refine z_is2 eX12_readSort_161 zn0 ?_
                  refine z_il3 eX12_readSort_162 ?_
                  refine z_ine eX12_readSort_163 rfl (fun c163 => ?_) (fun c163 => ?_)
                  · exact absurd c127 c163
                  · refine z_il4 eX12_readSort_166 ?_
                    refine z_ine eX12_readSort_168 rfl (fun c168 => ?_) (fun c168 => ?_)
                    · exact absurd c98 c168
                    · refine z_ki eX12_readSort_171 ?_
                      refine z_goto eX12_readSort_172 rfl ?_
                      refine z_is3 eX12_readSort_176 zn0 ?_
                      refine z_al0 eX12_readSort_177 ?_
                      refine zc_vv0 eX12_readSort_178 lX12_211 tX12_next zs117 (by decide) (Nat.le_of_ble_eq_true rfl) (M.next (by omega)) ?_
                      rintro g1 M1
                      refine z_al0 eX12_readSort_181 ?_
                      refine z_ga eX12_readSort_182 fX12_35 zs117 (t := 122) rfl ?_
                      refine z_ki eX12_readSort_185 ?_
                      refine z_il4 eX12_readSort_188 ?_
                      refine z_ieq eX12_readSort_190 rfl (fun c190 => ?_) (fun c190 => ?_)
                      · refine z_ki eX12_readSort_198 ?_
                        refine z_iaddN eX12_readSort_200 (by omega) (by omega) ?_
                        refine z_il1 eX12_readSort_201 ?_
                        refine z_iaddN eX12_readSort_202 (by omega) (by omega) ?_
                        refine z_al0 eX12_readSort_203 ?_
                        refine z_ki eX12_readSort_204 ?_
                        refine z_ki eX12_readSort_205 ?_
                        refine zc_vi2 eX12_readSort_207 lX12_235 tX12_count zs117 (by decide) (Nat.le_of_ble_eq_true rfl) (M1.cnt 0 99) ?_
                        rintro v1 g2 ⟨p1, p2⟩ -
                        refine zs_iN eX12_readSort_210 zs122 (j := 1200 + (60 + s)) (by omega) (by omega) ?_
                        refine z_goto eX12_readSort_211 rfl ?_
                        refine z_fg4 ?_
                        have kb1 := tk_b (B := B) M1.hq
                        have ex : x = 1 := by omega
                        subst ex
                        by_cases zn9 : nuK B L (tkE B L q) 0 99 = 0
                        · rw [soF_cG z105 (by omega) zn9, ← (p1 zn9).1]
                          exact ih _ _ _ _ _ (by omega) (by omega) (by omega) ((p1 zn9).2.up2 (i := 60 + s) _ (by omega)) (hd.up (by omega) _) (by rw [up_ne (by omega)]; exact hN) (by rw [up_ne (by omega)]; exact hs) (by omega)
                        · rw [soF_cN z105 (by omega) zn9]
                          exact r_rs_b1 h0 _ _ _ ((p2 zn9).2.up2 (i := 60 + s) _ (by omega)) s (by omega) _ _
                      · exact absurd c98 c190
                · refine z_il4 eX12_readSort_151 ?_
                  refine z_ieq eX12_readSort_153 rfl (fun c153 => ?_) (fun c153 => ?_)
                  · refine z_ki eX12_readSort_160 ?_
                    refine z_is2 eX12_readSort_161 zn0 ?_
                    refine z_il3 eX12_readSort_162 ?_
                    refine z_ine eX12_readSort_163 rfl (fun c163 => ?_) (fun c163 => ?_)
                    · exact absurd c127 c163
                    · refine z_il4 eX12_readSort_166 ?_
                      refine z_ine eX12_readSort_168 rfl (fun c168 => ?_) (fun c168 => ?_)
                      · exact absurd c98 c168
                      · refine z_ki eX12_readSort_171 ?_
                        refine z_goto eX12_readSort_172 rfl ?_
                        refine z_is3 eX12_readSort_176 zn0 ?_
                        refine z_al0 eX12_readSort_177 ?_
                        refine zc_vv0 eX12_readSort_178 lX12_211 tX12_next zs117 (by decide) (Nat.le_of_ble_eq_true rfl) (M.next (by omega)) ?_
                        rintro g1 M1
                        refine z_al0 eX12_readSort_181 ?_
                        refine z_ga eX12_readSort_182 fX12_35 zs117 (t := 122) rfl ?_
                        refine z_ki eX12_readSort_185 ?_
                        refine z_il4 eX12_readSort_188 ?_
                        refine z_ieq eX12_readSort_190 rfl (fun c190 => ?_) (fun c190 => ?_)
                        · refine z_ki eX12_readSort_198 ?_
                          refine z_iaddN eX12_readSort_200 (by omega) (by omega) ?_
                          refine z_il1 eX12_readSort_201 ?_
                          refine z_iaddN eX12_readSort_202 (by omega) (by omega) ?_
                          refine z_al0 eX12_readSort_203 ?_
                          refine z_ki eX12_readSort_204 ?_
                          refine z_ki eX12_readSort_205 ?_
                          refine zc_vi2 eX12_readSort_207 lX12_235 tX12_count zs117 (by decide) (Nat.le_of_ble_eq_true rfl) (M1.cnt 0 99) ?_
                          rintro v1 g2 ⟨p1, p2⟩ -
                          refine zs_iN eX12_readSort_210 zs122 (j := 1200 + (60 + s)) (by omega) (by omega) ?_
                          refine z_goto eX12_readSort_211 rfl ?_
                          refine z_fg4 ?_
                          have kb1 := tk_b (B := B) M1.hq
                          have ex : x = 0 := by omega
                          subst ex
                          by_cases zn9 : nuK B L (tkE B L q) 0 99 = 0
                          · rw [soF_cG z105 (by omega) zn9, ← (p1 zn9).1]
                            exact ih _ _ _ _ _ (by omega) (by omega) (by omega) ((p1 zn9).2.up2 (i := 60 + s) _ (by omega)) (hd.up (by omega) _) (by rw [up_ne (by omega)]; exact hN) (by rw [up_ne (by omega)]; exact hs) (by omega)
                          · rw [soF_cN z105 (by omega) zn9]
                            exact r_rs_b1 h0 _ _ _ ((p2 zn9).2.up2 (i := 60 + s) _ (by omega)) s (by omega) _ _
                        · exact absurd c98 c190
                  · exact absurd c98 c153
              · exfalso; omega
            · refine z_al0 eX12_readSort_130 ?_
              refine z_ki eX12_readSort_131 ?_
              refine z_al0 eX12_readSort_132 ?_
              refine z_gi eX12_readSort_133 fX12_143 zs117 ?_
              rw [M.T.2.1]
              refine zc_vv2 eX12_readSort_136 lX12_207 tX12_fail zs117 (by decide) (Nat.le_of_ble_eq_true rfl) (M.fail 5 (by decide)) ?_
              rintro g1 X1
              have xb := X1.b
              refine z_al0 eX12_readSort_139 ?_
              refine z_gi eX12_readSort_140 fX12_201 zs117 ?_
              refine z_ile eX12_readSort_143 rfl (fun c143 => ?_) (fun c143 => ?_)
              · exfalso; omega
              · refine ze_v eX12_readSort_146 rfl ?_
                have eR := soF_c5 (B := B) (L := L) (s := s) (W := W) (ht := ht) (f := f) (o := x) (c := y) (q := q) (D := D) z105 (by omega)
                rw [eR]
                exact X1
          · exact absurd c98 c116
theorem r_rs_1 (h0 h : zHp) (B : Nat → Int) (L q q0 N : Nat) (D W : Nat → Int) (ht : Int) (M : mQ h0 B L q D W ht h) (hd : dN D) (hN : D 0 = (N : Int)) (s : Nat) (hs : D 1 = (s : Int)) (hs20 : s < 20) (hq0 : q0 ≤ q) : zRW mX12_readSort 4 (0, 0) 61 [zA 117, zI s, zU, zU, zU] [] 143 h (zqv (fun h' => mR h0 B L q0 (bnd (soF B L s W ht 3 0 0 q (up (up D (40 + s) 0) (60 + s) 1)) (soR B L N W s ht)) h')) := by
  refine z_al0 eX12_readSort_61 ?_
  refine z_ga eX12_readSort_62 fX12_35 zs117 (t := 122) rfl ?_
  refine z_ki eX12_readSort_65 ?_
  refine z_il1 eX12_readSort_68 ?_
  refine z_iaddN eX12_readSort_69 (by omega) (by omega) ?_
  refine z_ki eX12_readSort_70 ?_
  refine zs_iN eX12_readSort_71 zs122 (j := 1200 + (40 + s)) (by omega) (by omega) ?_
  refine z_al0 eX12_readSort_72 ?_
  refine z_ga eX12_readSort_73 fX12_35 zs117 (t := 122) rfl ?_
  refine z_ki eX12_readSort_76 ?_
  refine z_il1 eX12_readSort_79 ?_
  refine z_iaddN eX12_readSort_80 (by omega) (by omega) ?_
  refine z_ki eX12_readSort_81 ?_
  refine zs_iN eX12_readSort_82 zs122 (j := 1200 + (60 + s)) (by omega) (by omega) ?_
  refine z_ki eX12_readSort_83 ?_
  refine z_is2 eX12_readSort_84 zn0 ?_
  refine z_ki eX12_readSort_85 ?_
  refine z_is3 eX12_readSort_86 zn0 ?_
  exact r_rs_l h0 B L q0 N W ht s hs20 3 0 0 q _ _ (Or.inl rfl) (Or.inl rfl) rfl ((M.up2 (i := 40 + s) _ (by omega)).up2 (i := 60 + s) _ (by omega)) ((hd.up (by omega) _).up (by omega) _) (by rw [up_ne (by omega), up_ne (by omega)]; exact hN) (by rw [up_ne (by omega), up_ne (by omega)]; exact hs) hq0
theorem r_readSort (h0 h : zHp) (B : Nat → Int) (L q : Nat) (D W : Nat → Int) (ht : Int) (M : mQ h0 B L q D W ht h) (hd : dN D) (k1 : tkK B L q = 1) : zCv mX12_readSort 4 [zA 117] h (fun h' => mR h0 B L q (sortF B L q D W ht) h') := by
  refine z_enter [zA 117, zU, zU, zU, zU] (by decide +kernel) (Nat.le_of_ble_eq_true rfl) rfl (fun hra hrg => ?_)
  have hb := M.hb
  have e1 : h 122 1201 = D 1 := M.c 1 (by omega)
  have hn := nN_dN hd
  have kb := tk_b (B := B) M.hq
  refine z_al0 eX12_readSort_0 ?_
  refine z_ga eX12_readSort_1 fX12_35 zs117 (t := 122) rfl ?_
  refine z_ki eX12_readSort_4 ?_
  refine zr_iN eX12_readSort_7 zs122 (j := 1201) (by omega) (by omega) ?_
  refine z_ki eX12_readSort_8 ?_
  refine z_cne eX12_readSort_10 rfl (fun c10 => ?_) (fun c10 => ?_)
  · refine z_al0 eX12_readSort_23 ?_
    refine z_gi eX12_readSort_24 fX12_201 zs117 ?_
    refine z_ile eX12_readSort_27 rfl (fun c27 => ?_) (fun c27 => ?_)
    · refine z_al0 eX12_readSort_31 ?_
      refine z_ga eX12_readSort_32 fX12_35 zs117 (t := 122) rfl ?_
      refine z_ki eX12_readSort_35 ?_
      refine zr_iN eX12_readSort_38 zs122 (j := 1201) (by omega) (by omega) ?_
      rw [e1, hn.2.2.1]
      refine z_is1 eX12_readSort_39 zn2 ?_
      refine z_al0 eX12_readSort_40 ?_
      refine zc_vv0 eX12_readSort_41 lX12_211 tX12_next zs117 (by decide) (Nat.le_of_ble_eq_true rfl) (M.next (by omega)) ?_
      rintro g1 M1
      refine z_al0 eX12_readSort_44 ?_
      refine z_ga eX12_readSort_45 fX12_35 zs117 (t := 122) rfl ?_
      refine z_ki eX12_readSort_48 ?_
      refine z_il1 eX12_readSort_51 ?_
      refine z_iaddN eX12_readSort_52 (by omega) (by omega) ?_
      refine z_al0 eX12_readSort_53 ?_
      refine z_ki eX12_readSort_54 ?_
      refine z_ki eX12_readSort_55 ?_
      refine zc_vi2 eX12_readSort_57 lX12_235 tX12_count zs117 (by decide) (Nat.le_of_ble_eq_true rfl) (M1.cnt 0 99) ?_
      rintro v1 g2 ⟨p1, p2⟩ -
      refine zs_iN eX12_readSort_60 zs122 (j := 1200 + (20 + nS D)) (by omega) (by omega) ?_
      have kb1 := tk_b (B := B) M1.hq
      unfold sortF
      rw [if_neg (by omega)]
      by_cases zn9 : nuK B L (tkE B L q) 0 99 = 0
      · rw [if_pos zn9, ← (p1 zn9).1]
        exact r_rs_1 h0 _ B L _ q (nN D) _ W ht ((p1 zn9).2.up2 (i := 20 + nS D) _ (by omega)) (hd.up (by omega) _) (by rw [up_ne (by omega)]; exact hn.1) (nS D) (by rw [up_ne (by omega)]; exact hn.2.2.1) (by omega) (by omega)
      · rw [if_neg zn9]
        exact r_rs_b0 h0 _ _ _ ((p2 zn9).2.up2 (i := 20 + nS D) _ (by omega)) (nS D) (by omega)
    · exfalso; omega
  · refine z_al0 eX12_readSort_13 ?_
    refine z_ki eX12_readSort_14 ?_
    refine z_al0 eX12_readSort_16 ?_
    refine z_gi eX12_readSort_17 fX12_143 zs117 ?_
    rw [M.T.2.1]
    refine zc_vv2 eX12_readSort_20 lX12_207 tX12_fail zs117 (by decide) (Nat.le_of_ble_eq_true rfl) (M.fail 6 (by decide)) ?_
    rintro g1 X1
    have xb := X1.b
    refine z_al0 eX12_readSort_23 ?_
    refine z_gi eX12_readSort_24 fX12_201 zs117 ?_
    refine z_ile eX12_readSort_27 rfl (fun c27 => ?_) (fun c27 => ?_)
    · exfalso; omega
    · refine ze_v eX12_readSort_30 rfl ?_
      have eR : sortF B L q D W ht = .inl (6, tkA B L q) := by unfold sortF; rw [if_pos (by omega)]
      rw [eR]
      exact X1
theorem r_rt_l (h0 : zHp) (B : Nat → Int) (L q q0 N : Nat) (D W : Nat → Int) (hN : D 0 = (N : Int)) (hN8 : N ≤ 8) (hd : dN D) (hq0 : q0 < q) (hD : ∀ m : Nat, m < N → 0 ≤ D (290 + m) ∧ D (290 + m) < (N : Int)) : ∀ (r n : Nat) (h : zHp), n + r = N → mQ h0 B L q (tieF D n) W 1 h → zRW mX12_readTies 4 (0, 0) 77 [zA 117, zI n] [] 143 h (zqv (fun h' => mR h0 B L q0 (.inr (q, tieF D N, W, 1)) h')) := by
  have tk : ∀ n : Nat, n ≤ N → (∀ j : Nat, ¬ (11 ≤ j ∧ j < 19) → tieF D n j = D j) := by
    intro n
    induction n with
    | zero => intro _ j _; rfl
    | succ n ih =>
      intro hn j hj
      have := hD n (by omega)
      rw [tieF, up_ne (by omega)]
      exact ih (by omega) j hj
  intro r
  induction r using Nat.strongRecOn with
  | ind r ih =>
    intro n h hk M
    have e0 : h 122 1200 = (N : Int) := ((M.c 0 (by omega)).trans (tk n (by omega) 0 (by omega))).trans hN
    have hb := M.hb
    refine z_il1 eX12_readTies_77 ?_
    refine z_al0 eX12_readTies_78 ?_
    refine z_ga eX12_readTies_79 fX12_35 zs117 (t := 122) rfl ?_
    refine z_ki eX12_readTies_82 ?_
    refine zr_iN eX12_readTies_85 zs122 (j := 1200) (by omega) (by omega) ?_
    refine z_cge eX12_readTies_86 rfl (fun c86 => ?_) (fun c86 => ?_)
    · refine ze_v eX12_readTies_122 rfl ?_
      have e : n = N := by omega
      subst e
      refine ⟨hq0, M, ?_⟩
      show dN (tieF D n)
      unfold dN
      rw [tk n (by omega) 0 (by omega), tk n (by omega) 1 (by omega)]
      exact hd
    · refine z_al0 eX12_readTies_89 ?_
      refine z_gi eX12_readTies_90 fX12_201 zs117 ?_
      refine z_ine eX12_readTies_93 rfl (fun c93 => ?_) (fun c93 => ?_)
      · exact absurd hb c93
      · have hn := hD n (by omega)
        have e9 : h 122 (1200 + (290 + n)) = D (290 + n) := (M.c (290 + n) (by omega)).trans (tk n (by omega) _ (by omega))
        refine z_al0 eX12_readTies_96 ?_
        refine z_ga eX12_readTies_97 fX12_35 zs117 (t := 122) rfl ?_
        refine z_ki eX12_readTies_100 ?_
        refine z_al0 eX12_readTies_103 ?_
        refine z_ga eX12_readTies_104 fX12_35 zs117 (t := 122) rfl ?_
        refine z_ki eX12_readTies_107 ?_
        refine z_il1 eX12_readTies_110 ?_
        refine z_iaddN eX12_readTies_111 (by omega) (by omega) ?_
        refine zr_iN eX12_readTies_112 zs122 (j := 1200 + (290 + n)) (by omega) (by omega) ?_
        rw [e9]
        refine z_iaddN eX12_readTies_113 (by omega) (by omega) ?_
        refine z_il1 eX12_readTies_114 ?_
        refine zs_iN eX12_readTies_115 zs122 (j := 1200 + (11 + (D (290 + n)).toNat)) (by omega) (by omega) ?_
        refine z_incN1 eX12_readTies_116 zn2 (by omega) (by omega) ?_
        refine z_goto eX12_readTies_119 rfl ?_
        exact ih (r - 1) (by omega) (n + 1) _ (by omega) (M.up2 (i := 11 + (D (290 + n)).toNat) (n : Int) (by omega))
theorem r_rt_b (h0 h : zHp) (k : Int) (a : Nat) (X : mXs h0 k a h) : zRW mX12_readTies 4 (0, 0) 58 [zA 117, zU] [] 143 h (zqv (fun h' => mXs h0 k a h')) := by
  refine z_al0 eX12_readTies_58 ?_
  refine z_al0 eX12_readTies_59 ?_
  refine z_gi eX12_readTies_60 fX12_149 zs117 ?_
  refine z_ki eX12_readTies_63 ?_
  refine z_cne eX12_readTies_64 rfl (fun c64 => ?_) (fun c64 => ?_)
  · refine z_ki eX12_readTies_71 ?_
    refine zc_vv1 eX12_readTies_72 lX12_238 tX12_must zs117 (by decide) (Nat.le_of_ble_eq_true rfl) (r_mustB _ X.b _) ?_
    rintro _ rfl
    refine z_ki eX12_readTies_75 ?_
    refine z_is1 eX12_readTies_76 zn2 ?_
    refine z_il1 eX12_readTies_77 ?_
    refine z_al0 eX12_readTies_78 ?_
    refine z_ga eX12_readTies_79 fX12_35 zs117 (t := 122) rfl ?_
    refine z_ki eX12_readTies_82 ?_
    refine zr_iN eX12_readTies_85 zs122 (j := 1200) (by omega) (by omega) ?_
    refine z_cge eX12_readTies_86 rfl (fun c86 => ?_) (fun c86 => ?_)
    · refine ze_v eX12_readTies_122 rfl ?_
      exact X
    · refine z_al0 eX12_readTies_89 ?_
      refine z_gi eX12_readTies_90 fX12_201 zs117 ?_
      refine z_ine eX12_readTies_93 rfl (fun c93 => ?_) (fun c93 => ?_)
      · refine ze_v eX12_readTies_122 rfl ?_
        exact X
      · have := X.b; omega
  · refine z_ki eX12_readTies_67 ?_
    refine z_goto eX12_readTies_68 rfl ?_
    refine zc_vv1 eX12_readTies_72 lX12_238 tX12_must zs117 (by decide) (Nat.le_of_ble_eq_true rfl) (r_mustB _ X.b _) ?_
    rintro _ rfl
    refine z_ki eX12_readTies_75 ?_
    refine z_is1 eX12_readTies_76 zn2 ?_
    refine z_il1 eX12_readTies_77 ?_
    refine z_al0 eX12_readTies_78 ?_
    refine z_ga eX12_readTies_79 fX12_35 zs117 (t := 122) rfl ?_
    refine z_ki eX12_readTies_82 ?_
    refine zr_iN eX12_readTies_85 zs122 (j := 1200) (by omega) (by omega) ?_
    refine z_cge eX12_readTies_86 rfl (fun c86 => ?_) (fun c86 => ?_)
    · refine ze_v eX12_readTies_122 rfl ?_
      exact X
    · refine z_al0 eX12_readTies_89 ?_
      refine z_gi eX12_readTies_90 fX12_201 zs117 ?_
      refine z_ine eX12_readTies_93 rfl (fun c93 => ?_) (fun c93 => ?_)
      · refine ze_v eX12_readTies_122 rfl ?_
        exact X
      · have := X.b; omega
theorem r_rt_e (h0 h : zHp) (B : Nat → Int) (L q q0 N : Nat) (D W : Nat → Int) (M : mQ h0 B L q D W 1 h) (hd : dN D) (hN : D 0 = (N : Int)) (hN8 : N ≤ 8) (hq0 : q0 ≤ q) (hD : ∀ m : Nat, m < N → 0 ≤ D (290 + m) ∧ D (290 + m) < (N : Int)) (z3 : tkK B L q = 3) : zRW mX12_readTies 4 (0, 0) 58 [zA 117, zU] [] 143 h (zqv (fun h' => mR h0 B L q0 (.inr (tkE B L q, tieF D N, W, 1)) h')) := by
  have t14 := M.T.1
  have kb := (tk_b (B := B) M.hq).2.2.2.1 (by omega)
  have kb2 := tk_b (B := B) M.hq
  refine z_al0 eX12_readTies_58 ?_
  refine z_al0 eX12_readTies_59 ?_
  refine z_gi eX12_readTies_60 fX12_149 zs117 ?_
  refine z_ki eX12_readTies_63 ?_
  refine z_cne eX12_readTies_64 rfl (fun c64 => ?_) (fun c64 => ?_)
  · omega
  · refine z_ki eX12_readTies_67 ?_
    refine z_goto eX12_readTies_68 rfl ?_
    refine zc_vv1 eX12_readTies_72 lX12_238 tX12_must zs117 (by decide) (Nat.le_of_ble_eq_true rfl) (M.must _ (by first | exact Or.inl rfl | exact Or.inr rfl) (by omega)) ?_
    rintro g1 ⟨m1, m2⟩
    refine z_ki eX12_readTies_75 ?_
    refine z_is1 eX12_readTies_76 zn2 ?_
    exact r_rt_l h0 B L (tkE B L q) q0 N D W hN hN8 hd (by omega) hD N 0 g1 (by omega) (m1 rfl)
theorem r_rt_e2 (h0 h : zHp) (B : Nat → Int) (L q : Nat) (D W : Nat → Int) (M : mQ h0 B L q D W 1 h) (z3 : ¬ tkK B L q = 3) : zRW mX12_readTies 4 (0, 0) 58 [zA 117, zU] [] 143 h (zqv (fun h' => mXs h0 (fK (tkK B L q) 2) (tkA B L q) h')) := by
  have t14 := M.T.1
  refine z_al0 eX12_readTies_58 ?_
  refine z_al0 eX12_readTies_59 ?_
  refine z_gi eX12_readTies_60 fX12_149 zs117 ?_
  refine z_ki eX12_readTies_63 ?_
  refine z_cne eX12_readTies_64 rfl (fun c64 => ?_) (fun c64 => ?_)
  · refine z_ki eX12_readTies_71 ?_
    refine zc_vv1 eX12_readTies_72 lX12_238 tX12_must zs117 (by decide) (Nat.le_of_ble_eq_true rfl) (M.must _ (by first | exact Or.inl rfl | exact Or.inr rfl) (by omega)) ?_
    rintro g1 ⟨m1, m2⟩
    have X := m2 rfl
    refine z_ki eX12_readTies_75 ?_
    refine z_is1 eX12_readTies_76 zn2 ?_
    refine z_il1 eX12_readTies_77 ?_
    refine z_al0 eX12_readTies_78 ?_
    refine z_ga eX12_readTies_79 fX12_35 zs117 (t := 122) rfl ?_
    refine z_ki eX12_readTies_82 ?_
    refine zr_iN eX12_readTies_85 zs122 (j := 1200) (by omega) (by omega) ?_
    refine z_cge eX12_readTies_86 rfl (fun c86 => ?_) (fun c86 => ?_)
    · refine ze_v eX12_readTies_122 rfl ?_
      exact X
    · refine z_al0 eX12_readTies_89 ?_
      refine z_gi eX12_readTies_90 fX12_201 zs117 ?_
      refine z_ine eX12_readTies_93 rfl (fun c93 => ?_) (fun c93 => ?_)
      · refine ze_v eX12_readTies_122 rfl ?_
        exact X
      · have := X.b; omega
  · omega
theorem r_readTies (h0 h : zHp) (B : Nat → Int) (L q : Nat) (D W : Nat → Int) (ht : Int) (M : mQ h0 B L q D W ht h) (hd : dN D) (hz : ht = 0 ∨ ht = 1) : zCv mX12_readTies 4 [zA 117] h (fun h' => mR h0 B L q (if isK B L q 6 then tiesF B L q D W ht else .inl (fK (tkK B L q) 2, tkA B L q)) h') := by
  refine z_enter [zA 117, zU] (by decide +kernel) (Nat.le_of_ble_eq_true rfl) rfl (fun hra hrg => ?_)
  have hb := M.hb
  have e70 := M.t
  have hn := nN_dN hd
  have kb := tk_b (B := B) M.hq
  refine z_al0 eX12_readTies_0 ?_
  refine zc_vi0 eX12_readTies_1 lX12_198 tX12_isTiesWord zs117 (by decide) (Nat.le_of_ble_eq_true rfl) (r_kwTies _ B L _ M.hq M.T) ?_
  rintro _ _ ⟨rfl, rfl⟩ -
  refine z_ine eX12_readTies_4 rfl (fun c4 => ?_) (fun c4 => ?_)
  · have z4 := iteT c4
    refine z_al0 eX12_readTies_11 ?_
    refine z_gi eX12_readTies_12 fX12_201 zs117 ?_
    refine z_ine eX12_readTies_15 rfl (fun c15 => ?_) (fun c15 => ?_)
    · exact absurd hb c15
    · refine z_al0 eX12_readTies_18 ?_
      refine z_gi eX12_readTies_19 fX12_224 zs117 ?_
      refine z_ieq eX12_readTies_22 rfl (fun c22 => ?_) (fun c22 => ?_)
      · refine z_al0 eX12_readTies_34 ?_
        refine z_gi eX12_readTies_35 fX12_201 zs117 ?_
        refine z_ile eX12_readTies_38 rfl (fun c38 => ?_) (fun c38 => ?_)
        · refine z_al0 eX12_readTies_42 ?_
          refine z_ki eX12_readTies_43 ?_
          refine z_pz eX12_readTies_44 pX12_224 zs117 (by omega) ?_
          have M1 := M.up70 1
          refine z_al0 eX12_readTies_47 ?_
          refine zc_vv0 eX12_readTies_48 lX12_211 tX12_next zs117 (by decide) (Nat.le_of_ble_eq_true rfl) (M1.next (by omega)) ?_
          rintro g1 M2
          refine z_al0 eX12_readTies_51 ?_
          refine z_ki eX12_readTies_52 ?_
          rw [show (1490 : Int) = ((1200 + 290 : Nat) : Int) from rfl]
          refine zc_vv1 eX12_readTies_55 lX12_242 tX12_readOrder zs117 (by decide) (Nat.le_of_ble_eq_true rfl) (r_row h0 g1 B L _ D W 1 M2 hd 290 (by omega)) ?_
          rintro g2 R1
          rw [if_pos z4]
          unfold tiesF
          rw [if_neg (by omega)]
          rcases R1 with ⟨k, a, eR, X1⟩ | ⟨q2, D2, hq2, M3, ha2, h3, hn3⟩
          · rw [eR]
            exact r_rt_b h0 g2 k a X1
          · have d20 : D2 0 = D 0 := ha2 0 (by omega)
            have d21 : D2 1 = D 1 := ha2 1 (by omega)
            have hd2 : dN D2 := by unfold dN; rw [d20, d21]; exact hd
            by_cases z3 : tkK B L q2 = 3
            · rw [(h3 z3).1]
              exact r_rt_e h0 g2 B L q2 q (nN D) D2 W M3 hd2 (by omega) hn.2.1 (by omega) (h3 z3).2 z3
            · rw [hn3 z3]
              exact r_rt_e2 h0 g2 B L q2 D2 W M3 z3
        · exfalso; omega
      · refine z_al0 eX12_readTies_25 ?_
        refine z_ki eX12_readTies_26 ?_
        refine z_al0 eX12_readTies_27 ?_
        refine z_gi eX12_readTies_28 fX12_143 zs117 ?_
        rw [M.T.2.1]
        refine zc_vv2 eX12_readTies_31 lX12_207 tX12_fail zs117 (by decide) (Nat.le_of_ble_eq_true rfl) (M.fail 5 (by decide)) ?_
        rintro g1 X1
        have xb := X1.b
        refine z_al0 eX12_readTies_34 ?_
        refine z_gi eX12_readTies_35 fX12_201 zs117 ?_
        refine z_ile eX12_readTies_38 rfl (fun c38 => ?_) (fun c38 => ?_)
        · exfalso; omega
        · refine ze_v eX12_readTies_41 rfl ?_
          have eR : tiesF B L q D W ht = .inl (5, tkA B L q) := by unfold tiesF; rw [if_pos (by omega)]
          rw [if_pos z4, eR]
          exact X1
  · have z4 := iteF c4
    refine z_al0 eX12_readTies_7 ?_
    refine zc_vv0 eX12_readTies_8 lX12_214 tX12_wrong zs117 (by decide) (Nat.le_of_ble_eq_true rfl) M.wrong ?_
    rintro g1 X1
    have xb := X1.b
    refine z_al0 eX12_readTies_11 ?_
    refine z_gi eX12_readTies_12 fX12_201 zs117 ?_
    refine z_ine eX12_readTies_15 rfl (fun c15 => ?_) (fun c15 => ?_)
    · refine z_al0 eX12_readTies_34 ?_
      refine z_gi eX12_readTies_35 fX12_201 zs117 ?_
      refine z_ile eX12_readTies_38 rfl (fun c38 => ?_) (fun c38 => ?_)
      · exfalso; omega
      · refine ze_v eX12_readTies_41 rfl ?_
        rw [if_neg z4]
        exact X1
    · exfalso; omega
