-- the reference's steps and acts (written by wip/tools/specK2b.py)
noncomputable def thR (B : Nat → Int) (L : Nat) (R : Rs) : Rs := match R with
  | .inl e => .inl e
  | .inr t => itR B L t
/-- the reference after a step: a fault, or it goes on at another place of the same text -/
def stM (h0 : zHp) (B : Nat → Int) (L q0 : Nat) (stk : List (Nat × Nat)) (R : Rs) (h : zHp) : Prop := (∃ (k : Int) (a : Nat), R = .inl (k, a) ∧ mAx h0 k a h) ∨ (∃ (q s n : Nat) (sp : Int) (A : zHp), R = itR B L (q, s, n, stk, sp, A) ∧ q0 < q ∧ s ≤ 40 ∧ (sp = 0 ∨ sp = 1) ∧ mA h0 B L q s sp A h)
def stC (K w : Nat) : Prop := ∀ (h0 h : zHp) (B : Nat → Int) (L q s n : Nat) (stk : List (Nat × Nat)) (sp : Int) (A : zHp), stk.length = w → s ≤ 40 → (sp = 0 ∨ sp = 1) → mA h0 B L q s sp A h → (tkK B L q = 0 → ¬ stk = []) → (isK B L q 13 → stk = []) → zCv mX12_readStep K [zA 117, zI w] h (fun h' => stM h0 B L q stk (itR B L (q, s, n, stk, sp, A)) h')
theorem r_sb4 (d w s : Nat) (hs : s < 40) (h0 h : zHp) (k : Int) (a : Nat) (X : mAx h0 k a h) (kd y : Int) : zRW mX12_readStep (4 + (d + 1)) (0, 0) 304 [zA 117, zI w, zI kd, zI y, zI s] [] 143 h (zqv (fun h' => mAx h0 k a h')) := by
  refine z_al0 eX12_readStep_304 ?_
  refine z_ga eX12_readStep_305 fX12_68 zs117 (t := 133) rfl ?_
  refine z_il4 eX12_readStep_308 ?_
  refine z_al0 eX12_readStep_310 ?_
  refine z_gi eX12_readStep_311 fX12_482 zs117 ?_
  refine zs_iN eX12_readStep_314 zs133 (j := s) (by omega) (by omega) ?_
  refine ze_v eX12_readStep_315 rfl ?_
  exact X.upr (by omega) _ _
theorem r_sb3 (d w s : Nat) (hs : s < 40) (h0 h : zHp) (k : Int) (a : Nat) (X : mAx h0 k a h) (kd y : Int) : zRW mX12_readStep (4 + (d + 1)) (0, 0) 247 [zA 117, zI w, zI kd, zI y, zI s] [] 143 h (zqv (fun h' => mAx h0 k a h')) := by
  refine z_il3 eX12_readStep_247 ?_
  refine z_ieq eX12_readStep_248 rfl (fun c248 => ?_) (fun c248 => ?_)
  · refine z_il3 eX12_readStep_275 ?_
    refine z_ieq eX12_readStep_276 rfl (fun c276 => ?_) (fun c276 => ?_)
    · exact r_sb4 d w s hs h0 _ k a X kd y
    · refine z_al0 eX12_readStep_279 ?_
      refine z_al0 eX12_readStep_280 ?_
      refine zc_vi0 eX12_readStep_281 lX12_476 tX12_isEnd zs117 (by omega) (Nat.le_of_ble_eq_true rfl) (r_isEndW _) ?_
      rintro v1 _ ⟨v01, rfl⟩ -
      refine zc_vv1 eX12_readStep_284 lX12_238 tX12_must zs117 (by omega) (Nat.le_of_ble_eq_true rfl) (r_mustB _ X.b _) ?_
      rintro _ rfl
      refine z_al0 eX12_readStep_287 ?_
      refine z_al0 eX12_readStep_288 ?_
      refine z_gi eX12_readStep_289 fX12_149 zs117 ?_
      refine z_ki eX12_readStep_292 ?_
      refine z_cne eX12_readStep_293 rfl (fun c293 => ?_) (fun c293 => ?_)
      · refine z_ki eX12_readStep_300 ?_
        refine zc_vv1 eX12_readStep_301 lX12_238 tX12_must zs117 (by omega) (Nat.le_of_ble_eq_true rfl) (r_mustB _ X.b _) ?_
        rintro _ rfl
        exact r_sb4 d w s hs h0 _ k a X kd y
      · refine z_ki eX12_readStep_296 ?_
        refine z_goto eX12_readStep_297 rfl ?_
        refine zc_vv1 eX12_readStep_301 lX12_238 tX12_must zs117 (by omega) (Nat.le_of_ble_eq_true rfl) (r_mustB _ X.b _) ?_
        rintro _ rfl
        exact r_sb4 d w s hs h0 _ k a X kd y
  · refine z_al0 eX12_readStep_251 ?_
    refine z_gi eX12_readStep_252 fX12_201 zs117 ?_
    refine z_ine eX12_readStep_255 rfl (fun c255 => ?_) (fun c255 => ?_)
    · refine z_il3 eX12_readStep_275 ?_
      refine z_ieq eX12_readStep_276 rfl (fun c276 => ?_) (fun c276 => ?_)
      · exact r_sb4 d w s hs h0 _ k a X kd y
      · refine z_al0 eX12_readStep_279 ?_
        refine z_al0 eX12_readStep_280 ?_
        refine zc_vi0 eX12_readStep_281 lX12_476 tX12_isEnd zs117 (by omega) (Nat.le_of_ble_eq_true rfl) (r_isEndW _) ?_
        rintro v1 _ ⟨v01, rfl⟩ -
        refine zc_vv1 eX12_readStep_284 lX12_238 tX12_must zs117 (by omega) (Nat.le_of_ble_eq_true rfl) (r_mustB _ X.b _) ?_
        rintro _ rfl
        refine z_al0 eX12_readStep_287 ?_
        refine z_al0 eX12_readStep_288 ?_
        refine z_gi eX12_readStep_289 fX12_149 zs117 ?_
        refine z_ki eX12_readStep_292 ?_
        refine z_cne eX12_readStep_293 rfl (fun c293 => ?_) (fun c293 => ?_)
        · refine z_ki eX12_readStep_300 ?_
          refine zc_vv1 eX12_readStep_301 lX12_238 tX12_must zs117 (by omega) (Nat.le_of_ble_eq_true rfl) (r_mustB _ X.b _) ?_
          rintro _ rfl
          exact r_sb4 d w s hs h0 _ k a X kd y
        · refine z_ki eX12_readStep_296 ?_
          refine z_goto eX12_readStep_297 rfl ?_
          refine zc_vv1 eX12_readStep_301 lX12_238 tX12_must zs117 (by omega) (Nat.le_of_ble_eq_true rfl) (r_mustB _ X.b _) ?_
          rintro _ rfl
          exact r_sb4 d w s hs h0 _ k a X kd y
    · have := X.b; omega
theorem r_sb2 (d w s : Nat) (hs : s < 40) (h0 h : zHp) (k : Int) (a : Nat) (X : mAx h0 k a h) (kd y : Int) : zRW mX12_readStep (4 + (d + 1)) (0, 0) 230 [zA 117, zI w, zI kd, zI y, zI s] [] 143 h (zqv (fun h' => mAx h0 k a h')) := by
  refine z_al0 eX12_readStep_230 ?_
  refine z_al0 eX12_readStep_231 ?_
  refine z_gi eX12_readStep_232 fX12_149 zs117 ?_
  refine z_ki eX12_readStep_235 ?_
  refine z_cne eX12_readStep_236 rfl (fun c236 => ?_) (fun c236 => ?_)
  · refine z_ki eX12_readStep_243 ?_
    refine zc_vv1 eX12_readStep_244 lX12_238 tX12_must zs117 (by omega) (Nat.le_of_ble_eq_true rfl) (r_mustB _ X.b _) ?_
    rintro _ rfl
    exact r_sb3 d w s hs h0 _ k a X kd y
  · refine z_ki eX12_readStep_239 ?_
    refine z_goto eX12_readStep_240 rfl ?_
    refine zc_vv1 eX12_readStep_244 lX12_238 tX12_must zs117 (by omega) (Nat.le_of_ble_eq_true rfl) (r_mustB _ X.b _) ?_
    rintro _ rfl
    exact r_sb3 d w s hs h0 _ k a X kd y
theorem r_sb1 (d w s : Nat) (hs : s < 40) (h0 h : zHp) (k : Int) (a : Nat) (X : mAx h0 k a h) (kd y : Int) : zRW mX12_readStep (4 + (d + 1)) (0, 0) 206 [zA 117, zI w, zI kd, zI y, zI s] [] 143 h (zqv (fun h' => mAx h0 k a h')) := by
  refine z_il2 eX12_readStep_206 ?_
  refine z_ki eX12_readStep_207 ?_
  refine z_ceq eX12_readStep_208 rfl (fun c208 => ?_) (fun c208 => ?_)
  · refine z_al0 eX12_readStep_216 ?_
    refine z_ga eX12_readStep_217 fX12_65 zs117 (t := 132) rfl ?_
    refine z_il4 eX12_readStep_220 ?_
    refine z_al0 eX12_readStep_222 ?_
    refine z_ki eX12_readStep_223 ?_
    refine z_ki eX12_readStep_224 ?_
    refine zc_vi2 eX12_readStep_226 lX12_235 tX12_count zs117 (by omega) (Nat.le_of_ble_eq_true rfl) (r_countB _ X.b _ _) ?_
    rintro _ _ ⟨rfl, rfl⟩ -
    refine zs_iN eX12_readStep_229 zs132 (j := s) (by omega) (by omega) ?_
    exact r_sb2 d w s hs h0 _ k a (X.upr (by omega) _ _) kd y
  · refine z_il2 eX12_readStep_211 ?_
    refine z_ki eX12_readStep_212 ?_
    refine z_cne eX12_readStep_213 rfl (fun c213 => ?_) (fun c213 => ?_)
    · exact r_sb2 d w s hs h0 _ k a X kd y
    · refine z_al0 eX12_readStep_216 ?_
      refine z_ga eX12_readStep_217 fX12_65 zs117 (t := 132) rfl ?_
      refine z_il4 eX12_readStep_220 ?_
      refine z_al0 eX12_readStep_222 ?_
      refine z_ki eX12_readStep_223 ?_
      refine z_ki eX12_readStep_224 ?_
      refine zc_vi2 eX12_readStep_226 lX12_235 tX12_count zs117 (by omega) (Nat.le_of_ble_eq_true rfl) (r_countB _ X.b _ _) ?_
      rintro _ _ ⟨rfl, rfl⟩ -
      refine zs_iN eX12_readStep_229 zs132 (j := s) (by omega) (by omega) ?_
      exact r_sb2 d w s hs h0 _ k a (X.upr (by omega) _ _) kd y
theorem r_s6 (d w s : Nat) (hs : s < 40) (h0 h : zHp) (B : Nat → Int) (L q s2 n2 q0 : Nat) (stk : List (Nat × Nat)) (sp : Int) (A : zHp) (T0 : Rs) (hs2 : s2 ≤ 40) (hsp : sp = 0 ∨ sp = 1) (M : mA h0 B L q s2 sp A h) (hq0 : q0 < q) (hT : T0 = itR B L (q, s2, n2, stk, sp, zup A 129 s (s2 : Int))) (kd : Int) : zRW mX12_readStep (4 + (d + 1)) (0, 0) 304 [zA 117, zI w, zI kd, zI 1, zI s] [] 143 h (zqv (fun h' => stM h0 B L q0 stk T0 h')) := by
  refine z_al0 eX12_readStep_304 ?_
  refine z_ga eX12_readStep_305 fX12_68 zs117 (t := 133) rfl ?_
  refine z_il4 eX12_readStep_308 ?_
  refine z_al0 eX12_readStep_310 ?_
  refine z_gi eX12_readStep_311 fX12_482 zs117 ?_
  rw [M.gs]
  refine zs_iN eX12_readStep_314 zs133 (j := s) (by omega) (by omega) ?_
  refine ze_v eX12_readStep_315 rfl ?_
  exact Or.inr ⟨q, s2, n2, sp, _, hT, hq0, hs2, hsp, M.up133 s _⟩
theorem r_s5 (d w s : Nat) (hs : s < 40) (h0 h : zHp) (B : Nat → Int) (L q s2 n2 n q0 : Nat) (stk : List (Nat × Nat)) (sp : Int) (A : zHp) (T0 : Rs) (hs2 : s2 ≤ 40) (hsp : sp = 0 ∨ sp = 1) (M : mA h0 B L q s2 sp A h) (hq0 : q0 < q) (hT : T0 = itR B L (q, s2, n2, (n, s) :: stk, sp, A)) (kd : Int) (z : isK B L q 13) : zRW mX12_readStep (4 + (d + 1)) (0, 0) 275 [zA 117, zI w, zI kd, zI 1, zI s] [] 143 h (zqv (fun h' => stM h0 B L q0 stk T0 h')) := by
  have kb := tk_b (B := B) M.hq
  refine z_il3 eX12_readStep_275 ?_
  refine z_ieq eX12_readStep_276 rfl (fun c276 => ?_) (fun c276 => ?_)
  · exact absurd c276 (by decide)
  · refine z_al0 eX12_readStep_279 ?_
    refine z_al0 eX12_readStep_280 ?_
    refine zc_vi0 eX12_readStep_281 lX12_476 tX12_isEnd zs117 (by omega) (Nat.le_of_ble_eq_true rfl) (r_isEnd _ B L _ M.hq M.T) ?_
    rintro _ _ ⟨rfl, rfl⟩ -
    rw [if_pos z]
    refine zc_vv1 eX12_readStep_284 lX12_238 tX12_must zs117 (by omega) (Nat.le_of_ble_eq_true rfl) (M.must 1 (Or.inr rfl) (fun _ => by omega)) ?_
    rintro g1 ⟨m1, -⟩
    have M1 := m1 rfl
    have t14 := M1.T.1
    have kb1 := tk_b (B := B) M1.hq
    refine z_al0 eX12_readStep_287 ?_
    refine z_al0 eX12_readStep_288 ?_
    refine z_gi eX12_readStep_289 fX12_149 zs117 ?_
    refine z_ki eX12_readStep_292 ?_
    refine z_cne eX12_readStep_293 rfl (fun c293 => ?_) (fun c293 => ?_)
    · refine z_ki eX12_readStep_300 ?_
      refine zc_vv1 eX12_readStep_301 lX12_238 tX12_must zs117 (by omega) (Nat.le_of_ble_eq_true rfl) (M1.must _ (by first | exact Or.inl rfl | exact Or.inr rfl) (by omega)) ?_
      rintro g2 ⟨m2, m3⟩
      have e : T0 = .inl (fK (tkK B L (tkE B L q)) 2, tkA B L (tkE B L q)) := by
        rw [hT, itR_en M.hq z, if_neg (fun y => by have := sgK_b.2.1 y; omega)]
        unfold sgK
        rw [if_neg (by omega)]
      exact z_wkv (r_sb4 d w s hs h0 _ _ _ (m3 rfl) kd 1) (fun f y => Or.inl ⟨_, _, e, y⟩)
    · refine z_ki eX12_readStep_296 ?_
      refine z_goto eX12_readStep_297 rfl ?_
      refine zc_vv1 eX12_readStep_301 lX12_238 tX12_must zs117 (by omega) (Nat.le_of_ble_eq_true rfl) (M1.must _ (by first | exact Or.inl rfl | exact Or.inr rfl) (by omega)) ?_
      rintro g2 ⟨m2, m3⟩
      have e := hT
      rw [itR_en M.hq z, if_pos (sgK_b.2.2 (by omega))] at e
      exact r_s6 d w s hs h0 g2 B L _ s2 (n2 + 1) q0 stk sp A T0 hs2 hsp (m2 rfl) (by omega) e kd
theorem r_s4 (d w s : Nat) (hs : s < 40) (hw : w < 3) (ihc : stC (4 + d) (w + 1)) (h0 : zHp) (B : Nat → Int) (L n q0 : Nat) (stk : List (Nat × Nat)) (hlen : stk.length = w) (T0 : Rs) (kd : Int) : ∀ (r q s2 n2 : Nat) (sp : Int) (A h : zHp), q + r = L → s2 ≤ 40 → (sp = 0 ∨ sp = 1) → mA h0 B L q s2 sp A h → q0 < q → T0 = itR B L (q, s2, n2, (n, s) :: stk, sp, A) → zRW mX12_readStep (4 + (d + 1)) (0, 0) 247 [zA 117, zI w, zI kd, zI 1, zI s] [] 143 h (zqv (fun h' => stM h0 B L q0 stk T0 h')) := by
  intro r
  induction r using Nat.strongRecOn with
  | ind r ih =>
    intro q s2 n2 sp A h hk hs2 hsp M hq0 hT
    have hb := M.hb
    refine z_il3 eX12_readStep_247 ?_
    refine z_ieq eX12_readStep_248 rfl (fun c248 => ?_) (fun c248 => ?_)
    · exact absurd c248 (by decide)
    · refine z_al0 eX12_readStep_251 ?_
      refine z_gi eX12_readStep_252 fX12_201 zs117 ?_
      refine z_ine eX12_readStep_255 rfl (fun c255 => ?_) (fun c255 => ?_)
      · exact absurd hb c255
      · refine z_al0 eX12_readStep_258 ?_
        refine zc_vi0 eX12_readStep_259 lX12_476 tX12_isEnd zs117 (by omega) (Nat.le_of_ble_eq_true rfl) (r_isEnd _ B L _ M.hq M.T) ?_
        rintro _ _ ⟨rfl, rfl⟩ -
        refine z_ine eX12_readStep_262 rfl (fun c262 => ?_) (fun c262 => ?_)
        · have z262 := iteT c262
          exact r_s5 d w s hs h0 h B L q s2 n2 n q0 stk sp A T0 hs2 hsp M hq0 hT kd z262
        · have z262 := iteF c262
          refine z_al0 eX12_readStep_265 ?_
          refine z_il1 eX12_readStep_266 ?_
          refine z_ki eX12_readStep_267 ?_
          refine z_iaddN eX12_readStep_268 (by omega) (by omega) ?_
          rw [show (w : Int) + 1 = ((w + 1 : Nat) : Int) by omega]
          refine zc_vv1 eX12_readStep_269 lX12_492 tX12_readStep zs117 (by omega) (Nat.le_of_ble_eq_true rfl) (ihc h0 h B L q s2 n2 ((n, s) :: stk) sp A (by rw [List.length_cons, hlen]) hs2 hsp M (fun _ y => by cases y) (fun y => absurd y z262)) ?_
          rintro g1 S1
          refine z_goto eX12_readStep_272 rfl ?_
          rcases S1 with ⟨k, a, e, X1⟩ | ⟨q3, s3, n3, sp3, A3, e, hq3, hs3, hsp3, M3⟩
          · exact z_wkv (r_sb3 d w s hs h0 g1 k a X1 kd 1) (fun f y => Or.inl ⟨k, a, hT.trans e, y⟩)
          · exact ih (L - q3) (by have := M3.hq; omega) q3 s3 n3 sp3 A3 g1 (by have := M3.hq; omega) hs3 hsp3 M3 (by omega) (hT.trans e)
theorem r_s7 (d w s : Nat) (hs : s < 40) (h0 h : zHp) (B : Nat → Int) (L q n2 q0 : Nat) (stk : List (Nat × Nat)) (sp : Int) (A : zHp) (T0 : Rs) (hsp : sp = 0 ∨ sp = 1) (M : mA h0 B L q (s + 1) sp A h) (hq0 : q0 < q) (hT : T0 = itR B L (q, s + 1, n2, stk, sp, zup A 129 s ((s : Int) + 1))) (kd : Int) : zRW mX12_readStep (4 + (d + 1)) (0, 0) 247 [zA 117, zI w, zI kd, zI 0, zI s] [] 143 h (zqv (fun h' => stM h0 B L q0 stk T0 h')) := by
  refine z_il3 eX12_readStep_247 ?_
  refine z_ieq eX12_readStep_248 rfl (fun c248 => ?_) (fun c248 => ?_)
  · refine z_il3 eX12_readStep_275 ?_
    refine z_ieq eX12_readStep_276 rfl (fun c276 => ?_) (fun c276 => ?_)
    · refine z_al0 eX12_readStep_304 ?_
      refine z_ga eX12_readStep_305 fX12_68 zs117 (t := 133) rfl ?_
      refine z_il4 eX12_readStep_308 ?_
      refine z_al0 eX12_readStep_310 ?_
      refine z_gi eX12_readStep_311 fX12_482 zs117 ?_
      rw [M.gs]
      refine zs_iN eX12_readStep_314 zs133 (j := s) (by omega) (by omega) ?_
      refine ze_v eX12_readStep_315 rfl ?_
      exact Or.inr ⟨q, s + 1, n2, sp, _, hT, hq0, by omega, hsp, M.up133 s _⟩
    · exact absurd rfl c276
  · exact absurd rfl c248
theorem r_s30 (d w s : Nat) (hs : s < 40) (hw : w ≤ 3) (ihc : w < 3 → stC (4 + d) (w + 1)) (h0 h : zHp) (B : Nat → Int) (L q n q0 : Nat) (stk : List (Nat × Nat)) (hlen : stk.length = w) (sp : Int) (A : zHp) (T0 : Rs) (kd : Int) (hsp : (if kd = 4 then 1 else sp) = 0 ∨ (if kd = 4 then 1 else sp) = 1) (M : mA h0 B L q (s + 1) (if kd = 4 then 1 else sp) A h) (hq0 : q0 < q) (hk : kd < 5) (hT : T0 = thR B L (hdF B L kd s n stk sp (.inr (q, A)))) : zRW mX12_readStep (4 + (d + 1)) (0, 0) 230 [zA 117, zI w, zI kd, zI 0, zI s] [] 143 h (zqv (fun h' => stM h0 B L q0 stk T0 h')) := by
  have t14 := M.T.1
  have kb := tk_b (B := B) M.hq
  refine z_al0 eX12_readStep_230 ?_
  refine z_al0 eX12_readStep_231 ?_
  refine z_gi eX12_readStep_232 fX12_149 zs117 ?_
  refine z_ki eX12_readStep_235 ?_
  refine z_cne eX12_readStep_236 rfl (fun c236 => ?_) (fun c236 => ?_)
  · refine z_ki eX12_readStep_243 ?_
    refine zc_vv1 eX12_readStep_244 lX12_238 tX12_must zs117 (by omega) (Nat.le_of_ble_eq_true rfl) (M.must _ (by first | exact Or.inl rfl | exact Or.inr rfl) (by omega)) ?_
    rintro g1 ⟨m1, m2⟩
    have e : T0 = .inl (fK (tkK B L q) 2, tkA B L q) := by
      rw [hT]
      show thR B L (if sgK B L q = 0 then _ else _) = _
      have es : sgK B L q = fK (tkK B L q) 2 := if_neg (by omega)
      rw [if_neg (fun y => by have := sgK_b.2.1 y; omega), es]
      rfl
    exact z_wkv (r_sb3 d w s hs h0 g1 _ _ (m2 rfl) kd 0) (fun f y => Or.inl ⟨_, _, e, y⟩)
  · refine z_ki eX12_readStep_239 ?_
    refine z_goto eX12_readStep_240 rfl ?_
    refine zc_vv1 eX12_readStep_244 lX12_238 tX12_must zs117 (by omega) (Nat.le_of_ble_eq_true rfl) (M.must _ (by first | exact Or.inl rfl | exact Or.inr rfl) (by omega)) ?_
    rintro g1 ⟨m1, m2⟩
    have M1 := m1 rfl
    have e : T0 = itR B L (tkE B L q, s + 1, n + 1, if 5 ≤ kd then (n, s) :: stk else stk, if kd = 4 then 1 else sp, if 5 ≤ kd then A else zup A 129 s ((s : Int) + 1)) := by
      rw [hT]
      show thR B L (if sgK B L q = 0 then _ else _) = _
      rw [if_pos (sgK_b.2.2 (by omega))]
      rfl
    rw [if_neg (show ¬ 5 ≤ kd by omega), if_neg (show ¬ 5 ≤ kd by omega)] at e
    exact r_s7 d w s hs h0 g1 B L _ (n + 1) q0 stk _ A T0 hsp M1 (by omega) e kd
theorem r_s31 (d w s : Nat) (hs : s < 40) (hw : w ≤ 3) (ihc : w < 3 → stC (4 + d) (w + 1)) (h0 h : zHp) (B : Nat → Int) (L q n q0 : Nat) (stk : List (Nat × Nat)) (hlen : stk.length = w) (sp : Int) (A : zHp) (T0 : Rs) (kd : Int) (hsp : (if kd = 4 then 1 else sp) = 0 ∨ (if kd = 4 then 1 else sp) = 1) (M : mA h0 B L q (s + 1) (if kd = 4 then 1 else sp) A h) (hq0 : q0 < q) (hk : 5 ≤ kd ∧ w < 3) (hT : T0 = thR B L (hdF B L kd s n stk sp (.inr (q, A)))) : zRW mX12_readStep (4 + (d + 1)) (0, 0) 230 [zA 117, zI w, zI kd, zI 1, zI s] [] 143 h (zqv (fun h' => stM h0 B L q0 stk T0 h')) := by
  have t14 := M.T.1
  have kb := tk_b (B := B) M.hq
  refine z_al0 eX12_readStep_230 ?_
  refine z_al0 eX12_readStep_231 ?_
  refine z_gi eX12_readStep_232 fX12_149 zs117 ?_
  refine z_ki eX12_readStep_235 ?_
  refine z_cne eX12_readStep_236 rfl (fun c236 => ?_) (fun c236 => ?_)
  · refine z_ki eX12_readStep_243 ?_
    refine zc_vv1 eX12_readStep_244 lX12_238 tX12_must zs117 (by omega) (Nat.le_of_ble_eq_true rfl) (M.must _ (by first | exact Or.inl rfl | exact Or.inr rfl) (by omega)) ?_
    rintro g1 ⟨m1, m2⟩
    have e : T0 = .inl (fK (tkK B L q) 2, tkA B L q) := by
      rw [hT]
      show thR B L (if sgK B L q = 0 then _ else _) = _
      have es : sgK B L q = fK (tkK B L q) 2 := if_neg (by omega)
      rw [if_neg (fun y => by have := sgK_b.2.1 y; omega), es]
      rfl
    exact z_wkv (r_sb3 d w s hs h0 g1 _ _ (m2 rfl) kd 1) (fun f y => Or.inl ⟨_, _, e, y⟩)
  · refine z_ki eX12_readStep_239 ?_
    refine z_goto eX12_readStep_240 rfl ?_
    refine zc_vv1 eX12_readStep_244 lX12_238 tX12_must zs117 (by omega) (Nat.le_of_ble_eq_true rfl) (M.must _ (by first | exact Or.inl rfl | exact Or.inr rfl) (by omega)) ?_
    rintro g1 ⟨m1, m2⟩
    have M1 := m1 rfl
    have e : T0 = itR B L (tkE B L q, s + 1, n + 1, if 5 ≤ kd then (n, s) :: stk else stk, if kd = 4 then 1 else sp, if 5 ≤ kd then A else zup A 129 s ((s : Int) + 1)) := by
      rw [hT]
      show thR B L (if sgK B L q = 0 then _ else _) = _
      rw [if_pos (sgK_b.2.2 (by omega))]
      rfl
    rw [if_pos hk.1, if_pos hk.1] at e
    exact r_s4 d w s hs hk.2 (ihc hk.2) h0 B L n q0 stk hlen T0 kd (L - tkE B L q) _ (s + 1) (n + 1) _ A g1 (by omega) (by omega) hsp M1 (by omega) e
theorem r_s20 (d w s : Nat) (hs : s < 40) (hw : w ≤ 3) (ihc : w < 3 → stC (4 + d) (w + 1)) (h0 h : zHp) (B : Nat → Int) (L q n q0 : Nat) (stk : List (Nat × Nat)) (hlen : stk.length = w) (sp : Int) (A : zHp) (T0 : Rs) (kd : Int) (hsp : (if kd = 4 then 1 else sp) = 0 ∨ (if kd = 4 then 1 else sp) = 1) (M : mA h0 B L q (s + 1) (if kd = 4 then 1 else sp) A h) (hq0 : q0 < q) (hk : kd < 5) (hkd : ¬ kd = 2 ∧ ¬ kd = 3) (hT : T0 = thR B L (hdF B L kd s n stk sp (.inr (q, A)))) : zRW mX12_readStep (4 + (d + 1)) (0, 0) 206 [zA 117, zI w, zI kd, zI 0, zI s] [] 143 h (zqv (fun h' => stM h0 B L q0 stk T0 h')) := by
  refine z_il2 eX12_readStep_206 ?_
  refine z_ki eX12_readStep_207 ?_
  refine z_ceq eX12_readStep_208 rfl (fun c208 => ?_) (fun c208 => ?_)
  · omega
  · refine z_il2 eX12_readStep_211 ?_
    refine z_ki eX12_readStep_212 ?_
    refine z_cne eX12_readStep_213 rfl (fun c213 => ?_) (fun c213 => ?_)
    · exact r_s30 d w s hs hw ihc h0 h B L q n q0 stk hlen sp A T0 kd hsp M hq0 hk hT
    · omega
theorem r_s21 (d w s : Nat) (hs : s < 40) (hw : w ≤ 3) (ihc : w < 3 → stC (4 + d) (w + 1)) (h0 h : zHp) (B : Nat → Int) (L q n q0 : Nat) (stk : List (Nat × Nat)) (hlen : stk.length = w) (sp : Int) (A : zHp) (T0 : Rs) (kd : Int) (hsp : (if kd = 4 then 1 else sp) = 0 ∨ (if kd = 4 then 1 else sp) = 1) (M : mA h0 B L q (s + 1) (if kd = 4 then 1 else sp) A h) (hq0 : q0 < q) (hk : 5 ≤ kd ∧ w < 3) (hkd : ¬ kd = 2 ∧ ¬ kd = 3) (hT : T0 = thR B L (hdF B L kd s n stk sp (.inr (q, A)))) : zRW mX12_readStep (4 + (d + 1)) (0, 0) 206 [zA 117, zI w, zI kd, zI 1, zI s] [] 143 h (zqv (fun h' => stM h0 B L q0 stk T0 h')) := by
  refine z_il2 eX12_readStep_206 ?_
  refine z_ki eX12_readStep_207 ?_
  refine z_ceq eX12_readStep_208 rfl (fun c208 => ?_) (fun c208 => ?_)
  · omega
  · refine z_il2 eX12_readStep_211 ?_
    refine z_ki eX12_readStep_212 ?_
    refine z_cne eX12_readStep_213 rfl (fun c213 => ?_) (fun c213 => ?_)
    · exact r_s31 d w s hs hw ihc h0 h B L q n q0 stk hlen sp A T0 kd hsp M hq0 hk hT
    · omega
theorem r_s2m (d w s : Nat) (hs : s < 40) (hw : w ≤ 3) (ihc : w < 3 → stC (4 + d) (w + 1)) (h0 h : zHp) (B : Nat → Int) (L q n q0 : Nat) (stk : List (Nat × Nat)) (hlen : stk.length = w) (sp : Int) (A : zHp) (T0 : Rs) (kd : Int) (hsp : (if kd = 4 then 1 else sp) = 0 ∨ (if kd = 4 then 1 else sp) = 1) (M : mA h0 B L q (s + 1) (if kd = 4 then 1 else sp) A h) (hq0 : q0 < q) (hkd : kd = 2 ∨ kd = 3) (hT : T0 = thR B L (hdF B L kd s n stk sp (if nuK B L q 0 99 = 0 then .inr (tkE B L q, zup A 128 s (tkV B L q)) else .inl (nuK B L q 0 99, tkA B L q)))) : zRW mX12_readStep (4 + (d + 1)) (0, 0) 206 [zA 117, zI w, zI kd, zI 0, zI s] [] 143 h (zqv (fun h' => stM h0 B L q0 stk T0 h')) := by
  have kb := tk_b (B := B) M.hq
  refine z_il2 eX12_readStep_206 ?_
  refine z_ki eX12_readStep_207 ?_
  refine z_ceq eX12_readStep_208 rfl (fun c208 => ?_) (fun c208 => ?_)
  · refine z_al0 eX12_readStep_216 ?_
    refine z_ga eX12_readStep_217 fX12_65 zs117 (t := 132) rfl ?_
    refine z_il4 eX12_readStep_220 ?_
    refine z_al0 eX12_readStep_222 ?_
    refine z_ki eX12_readStep_223 ?_
    refine z_ki eX12_readStep_224 ?_
    refine zc_vi2 eX12_readStep_226 lX12_235 tX12_count zs117 (by omega) (Nat.le_of_ble_eq_true rfl) (M.cnt 0 99) ?_
    rintro v1 g1 ⟨p1, p2⟩ -
    refine zs_iN eX12_readStep_229 zs132 (j := s) (by omega) (by omega) ?_
    by_cases z9 : nuK B L q 0 99 = 0
    · obtain ⟨rfl, M1⟩ := p1 z9
      rw [if_pos z9] at hT
      have k2 := (nuK_b.2.1 z9).1
      exact r_s30 d w s hs hw ihc h0 _ B L _ n q0 stk hlen sp _ T0 kd hsp (M1.up132 s _) (by omega) (by omega) hT
    · obtain ⟨rfl, X1⟩ := p2 z9
      rw [if_neg z9] at hT
      exact z_wkv (r_sb2 d w s hs h0 _ _ _ (X1.upr (by omega) _ _) kd 0) (fun f y => Or.inl ⟨_, _, hT, y⟩)
  · refine z_il2 eX12_readStep_211 ?_
    refine z_ki eX12_readStep_212 ?_
    refine z_cne eX12_readStep_213 rfl (fun c213 => ?_) (fun c213 => ?_)
    · omega
    · refine z_al0 eX12_readStep_216 ?_
      refine z_ga eX12_readStep_217 fX12_65 zs117 (t := 132) rfl ?_
      refine z_il4 eX12_readStep_220 ?_
      refine z_al0 eX12_readStep_222 ?_
      refine z_ki eX12_readStep_223 ?_
      refine z_ki eX12_readStep_224 ?_
      refine zc_vi2 eX12_readStep_226 lX12_235 tX12_count zs117 (by omega) (Nat.le_of_ble_eq_true rfl) (M.cnt 0 99) ?_
      rintro v1 g1 ⟨p1, p2⟩ -
      refine zs_iN eX12_readStep_229 zs132 (j := s) (by omega) (by omega) ?_
      by_cases z9 : nuK B L q 0 99 = 0
      · obtain ⟨rfl, M1⟩ := p1 z9
        rw [if_pos z9] at hT
        have k2 := (nuK_b.2.1 z9).1
        exact r_s30 d w s hs hw ihc h0 _ B L _ n q0 stk hlen sp _ T0 kd hsp (M1.up132 s _) (by omega) (by omega) hT
      · obtain ⟨rfl, X1⟩ := p2 z9
        rw [if_neg z9] at hT
        exact z_wkv (r_sb2 d w s hs h0 _ _ _ (X1.upr (by omega) _ _) kd 0) (fun f y => Or.inl ⟨_, _, hT, y⟩)
theorem r_s10 (d w s : Nat) (hs : s < 40) (hw : w ≤ 3) (ihc : w < 3 → stC (4 + d) (w + 1)) (h0 h : zHp) (B : Nat → Int) (L q n q0 : Nat) (stk : List (Nat × Nat)) (hlen : stk.length = w) (sp : Int) (A : zHp) (T0 : Rs) (kd : Int) (hsp : (if kd = 4 then 1 else sp) = 0 ∨ (if kd = 4 then 1 else sp) = 1) (M : mA h0 B L q (s + 1) (if kd = 4 then 1 else sp) A h) (hq0 : q0 < q) (hk : kd < 5) (hkd : 0 ≤ kd ∧ kd ≤ 7) (hT : T0 = thR B L (hdF B L kd s n stk sp (arF B L s q kd A))) : zRW mX12_readStep (4 + (d + 1)) (0, 0) 132 [zA 117, zI w, zI kd, zI 0, zI s] [] 143 h (zqv (fun h' => stM h0 B L q0 stk T0 h')) := by
  have kb := tk_b (B := B) M.hq
  refine z_il2 eX12_readStep_132 ?_
  refine z_ki eX12_readStep_133 ?_
  refine z_clt eX12_readStep_134 rfl (fun c134 => ?_) (fun c134 => ?_)
  · refine z_al0 eX12_readStep_142 ?_
    refine z_il4 eX12_readStep_143 ?_
    refine z_il2 eX12_readStep_145 ?_
    refine z_ki eX12_readStep_146 ?_
    refine z_cle eX12_readStep_147 rfl (fun c147 => ?_) (fun c147 => ?_)
    · refine z_ki eX12_readStep_154 ?_
      refine zc_vv2 eX12_readStep_155 lX12_488 tX12_readWho zs117 (by omega) (Nat.le_of_ble_eq_true rfl) (r_readWho h0 h B L q (s + 1) s _ A M hs _ (by first | exact Or.inl rfl | exact Or.inr rfl)) ?_
      rintro g1 R1
      refine z_goto eX12_readStep_158 rfl ?_
      have ea : arF B L s q kd A = whF B L s q 0 A := by unfold arF; rw [if_neg (by omega), if_neg (by omega), if_neg (by omega), if_neg (by omega)]
      have hb2 := fun r (e : arF B L s q kd A = .inr r) => Ra_b (B := B) M.hq e
      rw [ea] at hT hb2
      generalize whF B L s q 0 A = R at hT R1 hb2
      rcases R with e | r
      · exact z_wkv (r_sb1 d w s hs h0 _ _ _ R1 kd 0) (fun f y => Or.inl ⟨e.1, e.2, hT, y⟩)
      · exact r_s20 d w s hs hw ihc h0 _ B L r.1 n q0 stk hlen sp r.2 T0 kd hsp R1 (by have := (hb2 r rfl).1; omega) hk (by omega) hT
    · refine z_ki eX12_readStep_150 ?_
      refine z_goto eX12_readStep_151 rfl ?_
      refine zc_vv2 eX12_readStep_155 lX12_488 tX12_readWho zs117 (by omega) (Nat.le_of_ble_eq_true rfl) (r_readWho h0 h B L q (s + 1) s _ A M hs _ (by first | exact Or.inl rfl | exact Or.inr rfl)) ?_
      rintro g1 R1
      refine z_goto eX12_readStep_158 rfl ?_
      have ea : arF B L s q kd A = whF B L s q 1 A := by unfold arF; rw [if_neg (by omega), if_neg (by omega), if_neg (by omega), if_pos (by omega)]
      have hb2 := fun r (e : arF B L s q kd A = .inr r) => Ra_b (B := B) M.hq e
      rw [ea] at hT hb2
      generalize whF B L s q 1 A = R at hT R1 hb2
      rcases R with e | r
      · exact z_wkv (r_sb1 d w s hs h0 _ _ _ R1 kd 0) (fun f y => Or.inl ⟨e.1, e.2, hT, y⟩)
      · exact r_s20 d w s hs hw ihc h0 _ B L r.1 n q0 stk hlen sp r.2 T0 kd hsp R1 (by have := (hb2 r rfl).1; omega) hk (by omega) hT
  · refine z_il2 eX12_readStep_137 ?_
    refine z_ki eX12_readStep_138 ?_
    refine z_cle eX12_readStep_139 rfl (fun c139 => ?_) (fun c139 => ?_)
    · refine z_al0 eX12_readStep_161 ?_
      refine z_ga eX12_readStep_162 fX12_62 zs117 (t := 131) rfl ?_
      refine z_il4 eX12_readStep_165 ?_
      refine z_il2 eX12_readStep_167 ?_
      refine z_ki eX12_readStep_168 ?_
      refine z_cne eX12_readStep_169 rfl (fun c169 => ?_) (fun c169 => ?_)
      · refine z_il2 eX12_readStep_183 ?_
        refine z_ki eX12_readStep_184 ?_
        refine z_cne eX12_readStep_185 rfl (fun c185 => ?_) (fun c185 => ?_)
        · refine z_al0 eX12_readStep_198 ?_
          refine z_ki eX12_readStep_199 ?_
          refine z_ki eX12_readStep_200 ?_
          refine zc_vi2 eX12_readStep_202 lX12_235 tX12_count zs117 (by omega) (Nat.le_of_ble_eq_true rfl) (M.cnt 0 19) ?_
          rintro v1 g1 ⟨p1, p2⟩ -
          refine zs_iN eX12_readStep_205 zs131 (j := s) (by omega) (by omega) ?_
          have ea : arF B L s q kd A = moF B L s q A := by unfold arF; rw [if_pos (by omega)]
          rw [ea] at hT
          unfold moF at hT
          by_cases z9 : nuK B L q 0 19 = 0
          · obtain ⟨rfl, M1⟩ := p1 z9
            rw [if_pos z9] at hT
            exact r_s2m d w s hs hw ihc h0 _ B L _ n q0 stk hlen sp _ T0 kd hsp (M1.up131 s _) (by omega) (by omega) hT
          · obtain ⟨rfl, X1⟩ := p2 z9
            rw [if_neg z9] at hT
            exact z_wkv (r_sb1 d w s hs h0 _ _ _ (X1.upr (by omega) _ _) kd 0) (fun f y => Or.inl ⟨_, _, hT, y⟩)
        · refine z_al0 eX12_readStep_188 ?_
          refine z_ki eX12_readStep_189 ?_
          refine z_ki eX12_readStep_190 ?_
          refine zc_vi2 eX12_readStep_192 lX12_235 tX12_count zs117 (by omega) (Nat.le_of_ble_eq_true rfl) (M.cnt 1 9) ?_
          rintro v1 g1 ⟨p1, p2⟩ -
          refine z_goto eX12_readStep_195 rfl ?_
          refine zs_iN eX12_readStep_205 zs131 (j := s) (by omega) (by omega) ?_
          exfalso; omega
      · refine z_al0 eX12_readStep_172 ?_
        refine z_ki eX12_readStep_173 ?_
        refine z_ki eX12_readStep_174 ?_
        refine zc_vi2 eX12_readStep_177 lX12_235 tX12_count zs117 (by omega) (Nat.le_of_ble_eq_true rfl) (M.cnt 0 999) ?_
        rintro v1 g1 ⟨p1, p2⟩ -
        refine z_goto eX12_readStep_180 rfl ?_
        refine zs_iN eX12_readStep_205 zs131 (j := s) (by omega) (by omega) ?_
        have ea : arF B L s q kd A = nuF1 B L s q 0 999 A := by unfold arF; rw [if_neg (by omega), if_pos (by omega)]
        rw [ea] at hT
        unfold nuF1 at hT
        by_cases z9 : nuK B L q 0 999 = 0
        · obtain ⟨rfl, M1⟩ := p1 z9
          rw [if_pos z9] at hT
          exact r_s20 d w s hs hw ihc h0 _ B L _ n q0 stk hlen sp _ T0 kd hsp (M1.up131 s _) (by omega) hk (by omega) hT
        · obtain ⟨rfl, X1⟩ := p2 z9
          rw [if_neg z9] at hT
          exact z_wkv (r_sb1 d w s hs h0 _ _ _ (X1.upr (by omega) _ _) kd 0) (fun f y => Or.inl ⟨_, _, hT, y⟩)
    · refine z_al0 eX12_readStep_142 ?_
      refine z_il4 eX12_readStep_143 ?_
      refine z_il2 eX12_readStep_145 ?_
      refine z_ki eX12_readStep_146 ?_
      refine z_cle eX12_readStep_147 rfl (fun c147 => ?_) (fun c147 => ?_)
      · refine z_ki eX12_readStep_154 ?_
        refine zc_vv2 eX12_readStep_155 lX12_488 tX12_readWho zs117 (by omega) (Nat.le_of_ble_eq_true rfl) (r_readWho h0 h B L q (s + 1) s _ A M hs _ (by first | exact Or.inl rfl | exact Or.inr rfl)) ?_
        rintro g1 R1
        refine z_goto eX12_readStep_158 rfl ?_
        have ea : arF B L s q kd A = whF B L s q 0 A := by unfold arF; rw [if_neg (by omega), if_neg (by omega), if_neg (by omega), if_neg (by omega)]
        have hb2 := fun r (e : arF B L s q kd A = .inr r) => Ra_b (B := B) M.hq e
        rw [ea] at hT hb2
        generalize whF B L s q 0 A = R at hT R1 hb2
        rcases R with e | r
        · exact z_wkv (r_sb1 d w s hs h0 _ _ _ R1 kd 0) (fun f y => Or.inl ⟨e.1, e.2, hT, y⟩)
        · exact r_s20 d w s hs hw ihc h0 _ B L r.1 n q0 stk hlen sp r.2 T0 kd hsp R1 (by have := (hb2 r rfl).1; omega) hk (by omega) hT
      · refine z_ki eX12_readStep_150 ?_
        refine z_goto eX12_readStep_151 rfl ?_
        refine zc_vv2 eX12_readStep_155 lX12_488 tX12_readWho zs117 (by omega) (Nat.le_of_ble_eq_true rfl) (r_readWho h0 h B L q (s + 1) s _ A M hs _ (by first | exact Or.inl rfl | exact Or.inr rfl)) ?_
        rintro g1 R1
        refine z_goto eX12_readStep_158 rfl ?_
        have ea : arF B L s q kd A = whF B L s q 1 A := by unfold arF; rw [if_neg (by omega), if_neg (by omega), if_neg (by omega), if_pos (by omega)]
        have hb2 := fun r (e : arF B L s q kd A = .inr r) => Ra_b (B := B) M.hq e
        rw [ea] at hT hb2
        generalize whF B L s q 1 A = R at hT R1 hb2
        rcases R with e | r
        · exact z_wkv (r_sb1 d w s hs h0 _ _ _ R1 kd 0) (fun f y => Or.inl ⟨e.1, e.2, hT, y⟩)
        · exact r_s20 d w s hs hw ihc h0 _ B L r.1 n q0 stk hlen sp r.2 T0 kd hsp R1 (by have := (hb2 r rfl).1; omega) hk (by omega) hT
theorem r_s11 (d w s : Nat) (hs : s < 40) (hw : w ≤ 3) (ihc : w < 3 → stC (4 + d) (w + 1)) (h0 h : zHp) (B : Nat → Int) (L q n q0 : Nat) (stk : List (Nat × Nat)) (hlen : stk.length = w) (sp : Int) (A : zHp) (T0 : Rs) (kd : Int) (hsp : (if kd = 4 then 1 else sp) = 0 ∨ (if kd = 4 then 1 else sp) = 1) (M : mA h0 B L q (s + 1) (if kd = 4 then 1 else sp) A h) (hq0 : q0 < q) (hk : 5 ≤ kd ∧ w < 3) (hkd : 0 ≤ kd ∧ kd ≤ 7) (hT : T0 = thR B L (hdF B L kd s n stk sp (arF B L s q kd A))) : zRW mX12_readStep (4 + (d + 1)) (0, 0) 132 [zA 117, zI w, zI kd, zI 1, zI s] [] 143 h (zqv (fun h' => stM h0 B L q0 stk T0 h')) := by
  have kb := tk_b (B := B) M.hq
  refine z_il2 eX12_readStep_132 ?_
  refine z_ki eX12_readStep_133 ?_
  refine z_clt eX12_readStep_134 rfl (fun c134 => ?_) (fun c134 => ?_)
  · refine z_al0 eX12_readStep_142 ?_
    refine z_il4 eX12_readStep_143 ?_
    refine z_il2 eX12_readStep_145 ?_
    refine z_ki eX12_readStep_146 ?_
    refine z_cle eX12_readStep_147 rfl (fun c147 => ?_) (fun c147 => ?_)
    · refine z_ki eX12_readStep_154 ?_
      refine zc_vv2 eX12_readStep_155 lX12_488 tX12_readWho zs117 (by omega) (Nat.le_of_ble_eq_true rfl) (r_readWho h0 h B L q (s + 1) s _ A M hs _ (by first | exact Or.inl rfl | exact Or.inr rfl)) ?_
      rintro g1 R1
      refine z_goto eX12_readStep_158 rfl ?_
      have ea : arF B L s q kd A = whF B L s q 0 A := by unfold arF; rw [if_neg (by omega), if_neg (by omega), if_neg (by omega), if_neg (by omega)]
      have hb2 := fun r (e : arF B L s q kd A = .inr r) => Ra_b (B := B) M.hq e
      rw [ea] at hT hb2
      generalize whF B L s q 0 A = R at hT R1 hb2
      rcases R with e | r
      · exact z_wkv (r_sb1 d w s hs h0 _ _ _ R1 kd 1) (fun f y => Or.inl ⟨e.1, e.2, hT, y⟩)
      · exact r_s21 d w s hs hw ihc h0 _ B L r.1 n q0 stk hlen sp r.2 T0 kd hsp R1 (by have := (hb2 r rfl).1; omega) hk (by omega) hT
    · refine z_ki eX12_readStep_150 ?_
      refine z_goto eX12_readStep_151 rfl ?_
      refine zc_vv2 eX12_readStep_155 lX12_488 tX12_readWho zs117 (by omega) (Nat.le_of_ble_eq_true rfl) (r_readWho h0 h B L q (s + 1) s _ A M hs _ (by first | exact Or.inl rfl | exact Or.inr rfl)) ?_
      rintro g1 R1
      refine z_goto eX12_readStep_158 rfl ?_
      have ea : arF B L s q kd A = whF B L s q 1 A := by unfold arF; rw [if_neg (by omega), if_neg (by omega), if_neg (by omega), if_pos (by omega)]
      have hb2 := fun r (e : arF B L s q kd A = .inr r) => Ra_b (B := B) M.hq e
      rw [ea] at hT hb2
      generalize whF B L s q 1 A = R at hT R1 hb2
      rcases R with e | r
      · exact z_wkv (r_sb1 d w s hs h0 _ _ _ R1 kd 1) (fun f y => Or.inl ⟨e.1, e.2, hT, y⟩)
      · exact r_s21 d w s hs hw ihc h0 _ B L r.1 n q0 stk hlen sp r.2 T0 kd hsp R1 (by have := (hb2 r rfl).1; omega) hk (by omega) hT
  · refine z_il2 eX12_readStep_137 ?_
    refine z_ki eX12_readStep_138 ?_
    refine z_cle eX12_readStep_139 rfl (fun c139 => ?_) (fun c139 => ?_)
    · refine z_al0 eX12_readStep_161 ?_
      refine z_ga eX12_readStep_162 fX12_62 zs117 (t := 131) rfl ?_
      refine z_il4 eX12_readStep_165 ?_
      refine z_il2 eX12_readStep_167 ?_
      refine z_ki eX12_readStep_168 ?_
      refine z_cne eX12_readStep_169 rfl (fun c169 => ?_) (fun c169 => ?_)
      · refine z_il2 eX12_readStep_183 ?_
        refine z_ki eX12_readStep_184 ?_
        refine z_cne eX12_readStep_185 rfl (fun c185 => ?_) (fun c185 => ?_)
        · refine z_al0 eX12_readStep_198 ?_
          refine z_ki eX12_readStep_199 ?_
          refine z_ki eX12_readStep_200 ?_
          refine zc_vi2 eX12_readStep_202 lX12_235 tX12_count zs117 (by omega) (Nat.le_of_ble_eq_true rfl) (M.cnt 0 19) ?_
          rintro v1 g1 ⟨p1, p2⟩ -
          refine zs_iN eX12_readStep_205 zs131 (j := s) (by omega) (by omega) ?_
          exfalso; omega
        · refine z_al0 eX12_readStep_188 ?_
          refine z_ki eX12_readStep_189 ?_
          refine z_ki eX12_readStep_190 ?_
          refine zc_vi2 eX12_readStep_192 lX12_235 tX12_count zs117 (by omega) (Nat.le_of_ble_eq_true rfl) (M.cnt 1 9) ?_
          rintro v1 g1 ⟨p1, p2⟩ -
          refine z_goto eX12_readStep_195 rfl ?_
          refine zs_iN eX12_readStep_205 zs131 (j := s) (by omega) (by omega) ?_
          have ea : arF B L s q kd A = nuF1 B L s q 1 9 A := by unfold arF; rw [if_neg (by omega), if_neg (by omega), if_pos (by omega)]
          rw [ea] at hT
          unfold nuF1 at hT
          by_cases z9 : nuK B L q 1 9 = 0
          · obtain ⟨rfl, M1⟩ := p1 z9
            rw [if_pos z9] at hT
            exact r_s21 d w s hs hw ihc h0 _ B L _ n q0 stk hlen sp _ T0 kd hsp (M1.up131 s _) (by omega) hk (by omega) hT
          · obtain ⟨rfl, X1⟩ := p2 z9
            rw [if_neg z9] at hT
            exact z_wkv (r_sb1 d w s hs h0 _ _ _ (X1.upr (by omega) _ _) kd 1) (fun f y => Or.inl ⟨_, _, hT, y⟩)
      · refine z_al0 eX12_readStep_172 ?_
        refine z_ki eX12_readStep_173 ?_
        refine z_ki eX12_readStep_174 ?_
        refine zc_vi2 eX12_readStep_177 lX12_235 tX12_count zs117 (by omega) (Nat.le_of_ble_eq_true rfl) (M.cnt 0 999) ?_
        rintro v1 g1 ⟨p1, p2⟩ -
        refine z_goto eX12_readStep_180 rfl ?_
        refine zs_iN eX12_readStep_205 zs131 (j := s) (by omega) (by omega) ?_
        exfalso; omega
    · refine z_al0 eX12_readStep_142 ?_
      refine z_il4 eX12_readStep_143 ?_
      refine z_il2 eX12_readStep_145 ?_
      refine z_ki eX12_readStep_146 ?_
      refine z_cle eX12_readStep_147 rfl (fun c147 => ?_) (fun c147 => ?_)
      · refine z_ki eX12_readStep_154 ?_
        refine zc_vv2 eX12_readStep_155 lX12_488 tX12_readWho zs117 (by omega) (Nat.le_of_ble_eq_true rfl) (r_readWho h0 h B L q (s + 1) s _ A M hs _ (by first | exact Or.inl rfl | exact Or.inr rfl)) ?_
        rintro g1 R1
        refine z_goto eX12_readStep_158 rfl ?_
        have ea : arF B L s q kd A = whF B L s q 0 A := by unfold arF; rw [if_neg (by omega), if_neg (by omega), if_neg (by omega), if_neg (by omega)]
        have hb2 := fun r (e : arF B L s q kd A = .inr r) => Ra_b (B := B) M.hq e
        rw [ea] at hT hb2
        generalize whF B L s q 0 A = R at hT R1 hb2
        rcases R with e | r
        · exact z_wkv (r_sb1 d w s hs h0 _ _ _ R1 kd 1) (fun f y => Or.inl ⟨e.1, e.2, hT, y⟩)
        · exact r_s21 d w s hs hw ihc h0 _ B L r.1 n q0 stk hlen sp r.2 T0 kd hsp R1 (by have := (hb2 r rfl).1; omega) hk (by omega) hT
      · refine z_ki eX12_readStep_150 ?_
        refine z_goto eX12_readStep_151 rfl ?_
        refine zc_vv2 eX12_readStep_155 lX12_488 tX12_readWho zs117 (by omega) (Nat.le_of_ble_eq_true rfl) (r_readWho h0 h B L q (s + 1) s _ A M hs _ (by first | exact Or.inl rfl | exact Or.inr rfl)) ?_
        rintro g1 R1
        refine z_goto eX12_readStep_158 rfl ?_
        have ea : arF B L s q kd A = whF B L s q 1 A := by unfold arF; rw [if_neg (by omega), if_neg (by omega), if_neg (by omega), if_pos (by omega)]
        have hb2 := fun r (e : arF B L s q kd A = .inr r) => Ra_b (B := B) M.hq e
        rw [ea] at hT hb2
        generalize whF B L s q 1 A = R at hT R1 hb2
        rcases R with e | r
        · exact z_wkv (r_sb1 d w s hs h0 _ _ _ R1 kd 1) (fun f y => Or.inl ⟨e.1, e.2, hT, y⟩)
        · exact r_s21 d w s hs hw ihc h0 _ B L r.1 n q0 stk hlen sp r.2 T0 kd hsp R1 (by have := (hb2 r rfl).1; omega) hk (by omega) hT
theorem r_step (d w : Nat) (hw : w ≤ 3) (ihc : w < 3 → stC (4 + d) (w + 1)) : stC (4 + (d + 1)) w := by
  intro h0 h B L q s n stk sp A hlen hs40 hsp M hz0 hz1
  refine z_enter [zA 117, zI w, zU, zU, zU] (by decide +kernel) (Nat.le_of_ble_eq_true rfl) rfl (fun hra hrg => ?_)
  have hb := M.hb
  have kb := tk_b (B := B) M.hq
  have kd := kdS_b (B := B) (L := L) (q := q)
  refine z_al0 eX12_readStep_0 ?_
  refine zc_vi0 eX12_readStep_1 lX12_470 tX12_stepWord zs117 (by omega) (Nat.le_of_ble_eq_true rfl) (r_stepWord _ B L q M.hq M.T) ?_
  rintro _ _ ⟨rfl, rfl⟩ -
  refine z_is2 eX12_readStep_4 zn0 ?_
  refine z_il2 eX12_readStep_5 ?_
  refine z_ige eX12_readStep_6 rfl (fun c6 => ?_) (fun c6 => ?_)
  · refine z_il2 eX12_readStep_13 ?_
    refine z_ki eX12_readStep_14 ?_
    refine z_clt eX12_readStep_15 rfl (fun c15 => ?_) (fun c15 => ?_)
    · refine z_ki eX12_readStep_22 ?_
      refine z_is3 eX12_readStep_23 zn0 ?_
      refine z_al0 eX12_readStep_24 ?_
      refine z_gi eX12_readStep_25 fX12_201 zs117 ?_
      refine z_ine eX12_readStep_28 rfl (fun c28 => ?_) (fun c28 => ?_)
      · exact absurd hb c28
      · refine z_il3 eX12_readStep_31 ?_
        refine z_ieq eX12_readStep_32 rfl (fun c32 => ?_) (fun c32 => ?_)
        · refine z_al0 eX12_readStep_49 ?_
          refine z_gi eX12_readStep_50 fX12_201 zs117 ?_
          refine z_ine eX12_readStep_53 rfl (fun c53 => ?_) (fun c53 => ?_)
          · exact absurd hb c53
          · have gs := M.gs
            refine z_al0 eX12_readStep_56 ?_
            refine z_gi eX12_readStep_57 fX12_482 zs117 ?_
            refine z_ki eX12_readStep_60 ?_
            refine z_cne eX12_readStep_62 rfl (fun c62 => ?_) (fun c62 => ?_)
            · refine z_al0 eX12_readStep_75 ?_
              refine z_gi eX12_readStep_76 fX12_201 zs117 ?_
              refine z_ile eX12_readStep_79 rfl (fun c79 => ?_) (fun c79 => ?_)
              · refine z_al0 eX12_readStep_83 ?_
                refine z_gi eX12_readStep_84 fX12_482 zs117 ?_
                rw [M.gs]
                refine z_is4 eX12_readStep_87 zn0 ?_
                refine z_al0 eX12_readStep_89 ?_
                refine z_dup eX12_readStep_90 zn2 ?_
                refine z_gi eX12_readStep_91 fX12_482 zs117 ?_
                rw [M.gs]
                refine z_ki eX12_readStep_94 ?_
                refine z_iaddN eX12_readStep_95 (by omega) (by omega) ?_
                refine z_pi eX12_readStep_96 pX12_482 zs117 ?_
                rw [show (s : Int) + 1 = ((s + 1 : Nat) : Int) by omega]
                have M2 := (M.up27 (s + 1)).up130 s (kdS B L q)
                refine z_al0 eX12_readStep_99 ?_
                refine z_ga eX12_readStep_100 fX12_59 zs117 (t := 130) rfl ?_
                refine z_il4 eX12_readStep_103 ?_
                refine z_il2 eX12_readStep_105 ?_
                refine zs_iN eX12_readStep_106 zs130 (j := s) (by omega) (by omega) ?_
                refine z_al0 eX12_readStep_107 ?_
                refine z_al0 eX12_readStep_108 ?_
                refine z_gi eX12_readStep_109 fX12_485 zs117 ?_
                refine z_ine eX12_readStep_112 rfl (fun c112 => ?_) (fun c112 => ?_)
                · refine z_ki eX12_readStep_120 ?_
                  refine z_goto eX12_readStep_121 rfl ?_
                  refine z_pz eX12_readStep_125 pX12_485 zs117 (by first | exact Or.inl rfl | exact Or.inr rfl) ?_
                  have es : 1 = (if kdS B L q = 4 then 1 else sp) := by
                    have gp := M2.gp
                    split <;> omega
                  have M3 := M2.up34 1
                  have hsp2 : (if kdS B L q = 4 then 1 else sp) = 0 ∨ (if kdS B L q = 4 then 1 else sp) = 1 := by rw [← es]; first | exact Or.inl rfl | exact Or.inr rfl
                  refine z_al0 eX12_readStep_128 ?_
                  refine zc_vv0 eX12_readStep_129 lX12_211 tX12_next zs117 (by omega) (Nat.le_of_ble_eq_true rfl) (M3.next (by have := (kd.2.2 (by omega)).1; omega)) ?_
                  rintro g2 M4
                  rw [es] at M4
                  have e : itR B L (q, s, n, stk, sp, A) = thR B L (hdF B L (kdS B L q) s n stk sp (arF B L s (tkE B L q) (kdS B L q) (zup A 126 s (kdS B L q)))) := by
                    rw [itR_st M.hq (by omega)]
                    unfold seF
                    rw [if_neg (by omega), if_neg (fun y => absurd y.1 (by omega)), if_neg (by omega)]
                    rfl
                  exact r_s10 d w s (by omega) hw ihc h0 g2 B L _ n q stk hlen sp _ _ (kdS B L q) hsp2 M4 (by omega) (by omega) (by omega) e
                · refine z_il2 eX12_readStep_115 ?_
                  refine z_ki eX12_readStep_116 ?_
                  refine z_cne eX12_readStep_117 rfl (fun c117 => ?_) (fun c117 => ?_)
                  · refine z_ki eX12_readStep_124 ?_
                    refine z_pz eX12_readStep_125 pX12_485 zs117 (by first | exact Or.inl rfl | exact Or.inr rfl) ?_
                    have es : 0 = (if kdS B L q = 4 then 1 else sp) := by
                      have gp := M2.gp
                      split <;> omega
                    have M3 := M2.up34 0
                    have hsp2 : (if kdS B L q = 4 then 1 else sp) = 0 ∨ (if kdS B L q = 4 then 1 else sp) = 1 := by rw [← es]; first | exact Or.inl rfl | exact Or.inr rfl
                    refine z_al0 eX12_readStep_128 ?_
                    refine zc_vv0 eX12_readStep_129 lX12_211 tX12_next zs117 (by omega) (Nat.le_of_ble_eq_true rfl) (M3.next (by have := (kd.2.2 (by omega)).1; omega)) ?_
                    rintro g2 M4
                    rw [es] at M4
                    have e : itR B L (q, s, n, stk, sp, A) = thR B L (hdF B L (kdS B L q) s n stk sp (arF B L s (tkE B L q) (kdS B L q) (zup A 126 s (kdS B L q)))) := by
                      rw [itR_st M.hq (by omega)]
                      unfold seF
                      rw [if_neg (by omega), if_neg (fun y => absurd y.1 (by omega)), if_neg (by omega)]
                      rfl
                    exact r_s10 d w s (by omega) hw ihc h0 g2 B L _ n q stk hlen sp _ _ (kdS B L q) hsp2 M4 (by omega) (by omega) (by omega) e
                  · refine z_ki eX12_readStep_120 ?_
                    refine z_goto eX12_readStep_121 rfl ?_
                    refine z_pz eX12_readStep_125 pX12_485 zs117 (by first | exact Or.inl rfl | exact Or.inr rfl) ?_
                    have es : 1 = (if kdS B L q = 4 then 1 else sp) := by
                      have gp := M2.gp
                      split <;> omega
                    have M3 := M2.up34 1
                    have hsp2 : (if kdS B L q = 4 then 1 else sp) = 0 ∨ (if kdS B L q = 4 then 1 else sp) = 1 := by rw [← es]; first | exact Or.inl rfl | exact Or.inr rfl
                    refine z_al0 eX12_readStep_128 ?_
                    refine zc_vv0 eX12_readStep_129 lX12_211 tX12_next zs117 (by omega) (Nat.le_of_ble_eq_true rfl) (M3.next (by have := (kd.2.2 (by omega)).1; omega)) ?_
                    rintro g2 M4
                    rw [es] at M4
                    have e : itR B L (q, s, n, stk, sp, A) = thR B L (hdF B L (kdS B L q) s n stk sp (arF B L s (tkE B L q) (kdS B L q) (zup A 126 s (kdS B L q)))) := by
                      rw [itR_st M.hq (by omega)]
                      unfold seF
                      rw [if_neg (by omega), if_neg (fun y => absurd y.1 (by omega)), if_neg (by omega)]
                      rfl
                    exact r_s10 d w s (by omega) hw ihc h0 g2 B L _ n q stk hlen sp _ _ (kdS B L q) hsp2 M4 (by omega) (by omega) (by omega) e
              · exfalso; omega
            · refine z_al0 eX12_readStep_65 ?_
              refine z_ki eX12_readStep_66 ?_
              refine z_al0 eX12_readStep_68 ?_
              refine z_gi eX12_readStep_69 fX12_143 zs117 ?_
              rw [M.T.2.1]
              refine zc_vv2 eX12_readStep_72 lX12_207 tX12_fail zs117 (by omega) (Nat.le_of_ble_eq_true rfl) (M.fail 6 (by decide)) ?_
              rintro g1 X1
              have xb := X1.b
              refine z_al0 eX12_readStep_75 ?_
              refine z_gi eX12_readStep_76 fX12_201 zs117 ?_
              refine z_ile eX12_readStep_79 rfl (fun c79 => ?_) (fun c79 => ?_)
              · exfalso; omega
              · refine ze_v eX12_readStep_82 rfl ?_
                have e : itR B L (q, s, n, stk, sp, A) = .inl (6, tkA B L q) := by
                  rw [itR_st M.hq (by omega)]
                  unfold seF
                  rw [if_neg (by omega), if_neg (fun y => absurd y.1 (by omega)), if_pos (by omega)]
                exact Or.inl ⟨_, _, e, X1⟩
        · exact absurd rfl c32
    · refine z_ki eX12_readStep_18 ?_
      refine z_goto eX12_readStep_19 rfl ?_
      refine z_is3 eX12_readStep_23 zn0 ?_
      refine z_al0 eX12_readStep_24 ?_
      refine z_gi eX12_readStep_25 fX12_201 zs117 ?_
      refine z_ine eX12_readStep_28 rfl (fun c28 => ?_) (fun c28 => ?_)
      · exact absurd hb c28
      · refine z_il3 eX12_readStep_31 ?_
        refine z_ieq eX12_readStep_32 rfl (fun c32 => ?_) (fun c32 => ?_)
        · exact absurd c32 (by decide)
        · refine z_il1 eX12_readStep_35 ?_
          refine z_ki eX12_readStep_36 ?_
          refine z_cne eX12_readStep_37 rfl (fun c37 => ?_) (fun c37 => ?_)
          · refine z_al0 eX12_readStep_49 ?_
            refine z_gi eX12_readStep_50 fX12_201 zs117 ?_
            refine z_ine eX12_readStep_53 rfl (fun c53 => ?_) (fun c53 => ?_)
            · exact absurd hb c53
            · have gs := M.gs
              refine z_al0 eX12_readStep_56 ?_
              refine z_gi eX12_readStep_57 fX12_482 zs117 ?_
              refine z_ki eX12_readStep_60 ?_
              refine z_cne eX12_readStep_62 rfl (fun c62 => ?_) (fun c62 => ?_)
              · refine z_al0 eX12_readStep_75 ?_
                refine z_gi eX12_readStep_76 fX12_201 zs117 ?_
                refine z_ile eX12_readStep_79 rfl (fun c79 => ?_) (fun c79 => ?_)
                · refine z_al0 eX12_readStep_83 ?_
                  refine z_gi eX12_readStep_84 fX12_482 zs117 ?_
                  rw [M.gs]
                  refine z_is4 eX12_readStep_87 zn0 ?_
                  refine z_al0 eX12_readStep_89 ?_
                  refine z_dup eX12_readStep_90 zn2 ?_
                  refine z_gi eX12_readStep_91 fX12_482 zs117 ?_
                  rw [M.gs]
                  refine z_ki eX12_readStep_94 ?_
                  refine z_iaddN eX12_readStep_95 (by omega) (by omega) ?_
                  refine z_pi eX12_readStep_96 pX12_482 zs117 ?_
                  rw [show (s : Int) + 1 = ((s + 1 : Nat) : Int) by omega]
                  have M2 := (M.up27 (s + 1)).up130 s (kdS B L q)
                  refine z_al0 eX12_readStep_99 ?_
                  refine z_ga eX12_readStep_100 fX12_59 zs117 (t := 130) rfl ?_
                  refine z_il4 eX12_readStep_103 ?_
                  refine z_il2 eX12_readStep_105 ?_
                  refine zs_iN eX12_readStep_106 zs130 (j := s) (by omega) (by omega) ?_
                  refine z_al0 eX12_readStep_107 ?_
                  refine z_al0 eX12_readStep_108 ?_
                  refine z_gi eX12_readStep_109 fX12_485 zs117 ?_
                  refine z_ine eX12_readStep_112 rfl (fun c112 => ?_) (fun c112 => ?_)
                  · refine z_ki eX12_readStep_120 ?_
                    refine z_goto eX12_readStep_121 rfl ?_
                    refine z_pz eX12_readStep_125 pX12_485 zs117 (by first | exact Or.inl rfl | exact Or.inr rfl) ?_
                    have es : 1 = (if kdS B L q = 4 then 1 else sp) := by
                      have gp := M2.gp
                      split <;> omega
                    have M3 := M2.up34 1
                    have hsp2 : (if kdS B L q = 4 then 1 else sp) = 0 ∨ (if kdS B L q = 4 then 1 else sp) = 1 := by rw [← es]; first | exact Or.inl rfl | exact Or.inr rfl
                    refine z_al0 eX12_readStep_128 ?_
                    refine zc_vv0 eX12_readStep_129 lX12_211 tX12_next zs117 (by omega) (Nat.le_of_ble_eq_true rfl) (M3.next (by have := (kd.2.2 (by omega)).1; omega)) ?_
                    rintro g2 M4
                    rw [es] at M4
                    have e : itR B L (q, s, n, stk, sp, A) = thR B L (hdF B L (kdS B L q) s n stk sp (arF B L s (tkE B L q) (kdS B L q) (zup A 126 s (kdS B L q)))) := by
                      rw [itR_st M.hq (by omega)]
                      unfold seF
                      rw [if_neg (by omega), if_neg (fun y => c37 (by omega)), if_neg (by omega)]
                      rfl
                    exact r_s11 d w s (by omega) hw ihc h0 g2 B L _ n q stk hlen sp _ _ (kdS B L q) hsp2 M4 (by omega) ⟨by omega, by omega⟩ (by omega) e
                  · refine z_il2 eX12_readStep_115 ?_
                    refine z_ki eX12_readStep_116 ?_
                    refine z_cne eX12_readStep_117 rfl (fun c117 => ?_) (fun c117 => ?_)
                    · refine z_ki eX12_readStep_124 ?_
                      refine z_pz eX12_readStep_125 pX12_485 zs117 (by first | exact Or.inl rfl | exact Or.inr rfl) ?_
                      have es : 0 = (if kdS B L q = 4 then 1 else sp) := by
                        have gp := M2.gp
                        split <;> omega
                      have M3 := M2.up34 0
                      have hsp2 : (if kdS B L q = 4 then 1 else sp) = 0 ∨ (if kdS B L q = 4 then 1 else sp) = 1 := by rw [← es]; first | exact Or.inl rfl | exact Or.inr rfl
                      refine z_al0 eX12_readStep_128 ?_
                      refine zc_vv0 eX12_readStep_129 lX12_211 tX12_next zs117 (by omega) (Nat.le_of_ble_eq_true rfl) (M3.next (by have := (kd.2.2 (by omega)).1; omega)) ?_
                      rintro g2 M4
                      rw [es] at M4
                      have e : itR B L (q, s, n, stk, sp, A) = thR B L (hdF B L (kdS B L q) s n stk sp (arF B L s (tkE B L q) (kdS B L q) (zup A 126 s (kdS B L q)))) := by
                        rw [itR_st M.hq (by omega)]
                        unfold seF
                        rw [if_neg (by omega), if_neg (fun y => c37 (by omega)), if_neg (by omega)]
                        rfl
                      exact r_s11 d w s (by omega) hw ihc h0 g2 B L _ n q stk hlen sp _ _ (kdS B L q) hsp2 M4 (by omega) ⟨by omega, by omega⟩ (by omega) e
                    · refine z_ki eX12_readStep_120 ?_
                      refine z_goto eX12_readStep_121 rfl ?_
                      refine z_pz eX12_readStep_125 pX12_485 zs117 (by first | exact Or.inl rfl | exact Or.inr rfl) ?_
                      have es : 1 = (if kdS B L q = 4 then 1 else sp) := by
                        have gp := M2.gp
                        split <;> omega
                      have M3 := M2.up34 1
                      have hsp2 : (if kdS B L q = 4 then 1 else sp) = 0 ∨ (if kdS B L q = 4 then 1 else sp) = 1 := by rw [← es]; first | exact Or.inl rfl | exact Or.inr rfl
                      refine z_al0 eX12_readStep_128 ?_
                      refine zc_vv0 eX12_readStep_129 lX12_211 tX12_next zs117 (by omega) (Nat.le_of_ble_eq_true rfl) (M3.next (by have := (kd.2.2 (by omega)).1; omega)) ?_
                      rintro g2 M4
                      rw [es] at M4
                      have e : itR B L (q, s, n, stk, sp, A) = thR B L (hdF B L (kdS B L q) s n stk sp (arF B L s (tkE B L q) (kdS B L q) (zup A 126 s (kdS B L q)))) := by
                        rw [itR_st M.hq (by omega)]
                        unfold seF
                        rw [if_neg (by omega), if_neg (fun y => c37 (by omega)), if_neg (by omega)]
                        rfl
                      exact r_s11 d w s (by omega) hw ihc h0 g2 B L _ n q stk hlen sp _ _ (kdS B L q) hsp2 M4 (by omega) ⟨by omega, by omega⟩ (by omega) e
                · exfalso; omega
              · refine z_al0 eX12_readStep_65 ?_
                refine z_ki eX12_readStep_66 ?_
                refine z_al0 eX12_readStep_68 ?_
                refine z_gi eX12_readStep_69 fX12_143 zs117 ?_
                rw [M.T.2.1]
                refine zc_vv2 eX12_readStep_72 lX12_207 tX12_fail zs117 (by omega) (Nat.le_of_ble_eq_true rfl) (M.fail 6 (by decide)) ?_
                rintro g1 X1
                have xb := X1.b
                refine z_al0 eX12_readStep_75 ?_
                refine z_gi eX12_readStep_76 fX12_201 zs117 ?_
                refine z_ile eX12_readStep_79 rfl (fun c79 => ?_) (fun c79 => ?_)
                · exfalso; omega
                · refine ze_v eX12_readStep_82 rfl ?_
                  have e : itR B L (q, s, n, stk, sp, A) = .inl (6, tkA B L q) := by
                    rw [itR_st M.hq (by omega)]
                    unfold seF
                    rw [if_neg (by omega), if_neg (fun y => c37 (by omega)), if_pos (by omega)]
                  exact Or.inl ⟨_, _, e, X1⟩
          · refine z_al0 eX12_readStep_40 ?_
            refine z_ki eX12_readStep_41 ?_
            refine z_al0 eX12_readStep_42 ?_
            refine z_gi eX12_readStep_43 fX12_143 zs117 ?_
            rw [M.T.2.1]
            refine zc_vv2 eX12_readStep_46 lX12_207 tX12_fail zs117 (by omega) (Nat.le_of_ble_eq_true rfl) (M.fail 5 (by decide)) ?_
            rintro g1 X1
            have xb := X1.b
            refine z_al0 eX12_readStep_49 ?_
            refine z_gi eX12_readStep_50 fX12_201 zs117 ?_
            refine z_ine eX12_readStep_53 rfl (fun c53 => ?_) (fun c53 => ?_)
            · refine z_al0 eX12_readStep_75 ?_
              refine z_gi eX12_readStep_76 fX12_201 zs117 ?_
              refine z_ile eX12_readStep_79 rfl (fun c79 => ?_) (fun c79 => ?_)
              · exfalso; omega
              · refine ze_v eX12_readStep_82 rfl ?_
                have e : itR B L (q, s, n, stk, sp, A) = .inl (5, tkA B L q) := by
                  rw [itR_st M.hq (by omega)]
                  unfold seF
                  rw [if_neg (by omega), if_pos ⟨by omega, by omega⟩]
                exact Or.inl ⟨_, _, e, X1⟩
            · exfalso; omega
  · refine z_al0 eX12_readStep_9 ?_
    refine zc_vv0 eX12_readStep_10 lX12_214 tX12_wrong zs117 (by omega) (Nat.le_of_ble_eq_true rfl) M.wrong ?_
    rintro g1 X1
    have xb := X1.b
    refine z_il2 eX12_readStep_13 ?_
    refine z_ki eX12_readStep_14 ?_
    refine z_clt eX12_readStep_15 rfl (fun c15 => ?_) (fun c15 => ?_)
    · refine z_ki eX12_readStep_22 ?_
      refine z_is3 eX12_readStep_23 zn0 ?_
      refine z_al0 eX12_readStep_24 ?_
      refine z_gi eX12_readStep_25 fX12_201 zs117 ?_
      refine z_ine eX12_readStep_28 rfl (fun c28 => ?_) (fun c28 => ?_)
      · refine z_al0 eX12_readStep_49 ?_
        refine z_gi eX12_readStep_50 fX12_201 zs117 ?_
        refine z_ine eX12_readStep_53 rfl (fun c53 => ?_) (fun c53 => ?_)
        · refine z_al0 eX12_readStep_75 ?_
          refine z_gi eX12_readStep_76 fX12_201 zs117 ?_
          refine z_ile eX12_readStep_79 rfl (fun c79 => ?_) (fun c79 => ?_)
          · exfalso; omega
          · refine ze_v eX12_readStep_82 rfl ?_
            exact Or.inl ⟨_, _, itR_no M.hq (by omega) hz0 hz1, X1⟩
        · exfalso; omega
      · exfalso; omega
    · exfalso; omega
theorem r_steps : stC 8 0 := r_step 3 0 (by omega) (fun _ => r_step 2 1 (by omega) (fun _ => r_step 1 2 (by omega) (fun _ => r_step 0 3 (by omega) (fun h => by omega))))
