-- told, cost: the reference (written by wip/tools/specC3.py)
theorem r_numberOf (h : zHp) (t k : Nat) (ht : t < 4) (hk : k < 60) : zCj mX12_numberOf 0 [zA 117, zI t, zI k] h (fun v h' => nums h t k = v ∧ h = h') := by
  refine z_enter [zA 117, zI t, zI k] (by decide +kernel) (Nat.le_of_ble_eq_true rfl) rfl (fun hra hrg => ?_)
  refine z_al0 eX12_numberOf_0 ?_
  refine z_ga eX12_numberOf_1 fX12_20 zs117 (t := 120) rfl ?_
  refine z_ki eX12_numberOf_4 ?_
  refine z_il1 eX12_numberOf_6 ?_
  refine z_imulN eX12_numberOf_7 (by omega) (by omega) ?_
  refine z_il2 eX12_numberOf_8 ?_
  refine z_iaddN eX12_numberOf_9 (by omega) (by omega) ?_
  refine zr_lN eX12_numberOf_10 zs120 (j := 60 * t + k) (by omega) (by omega) ?_
  refine ze_j eX12_numberOf_11 rfl ?_
  exact ⟨rfl, rfl⟩
theorem r_isTray (h : zHp) (x : Int) : zCi mX12_isTray 1 [zA 117, zI x] h (fun v h' => (if 0 ≤ x ∧ x < 4 then 1 else 0) = v ∧ h = h') := by
  refine z_enter [zA 117, zI x] (by decide +kernel) (Nat.le_of_ble_eq_true rfl) rfl (fun hra hrg => ?_)
  refine z_il1 eX12_isTray_0 ?_
  refine z_i2l eX12_isTray_1 ?_
  refine z_kj eX12_isTray_2 ?_
  refine z_kj eX12_isTray_3 ?_
  refine zc_si3 eX12_isTray_6 lX12_133 tX12_isIn (by decide) (Nat.le_of_ble_eq_true rfl) (r_isIn _ _ _ _) ?_
  rintro _ _ ⟨rfl, rfl⟩ -
  refine ze_z eX12_isTray_9 rfl (by first | (split; exact Or.inr rfl; exact Or.inl rfl) | exact Or.inl rfl | exact Or.inr rfl) ?_
  refine ⟨?_, rfl⟩
  by_cases q : 0 ≤ x ∧ x < 4
  · rw [if_pos q, if_pos (by omega)]
  · rw [if_neg q, if_neg (by omega)]
def mTd (g : zHp) (D : Nat → Int) (S : tSt) : Prop := g 122 = D ∧ g 117 72 = (S.1 : Int) ∧ g 117 73 = S.2.2.2 ∧ ∀ s : Nat, s < nS D → g 124 s = S.2.1 s ∧ g 141 s = S.2.2.1 s
theorem mTd_n {g : zHp} {D : Nat → Int} {S : tSt} (R : mTd g D S) (y : Nat) (z : Int) : mTd (zup (zup g 117 72 (y : Int)) 117 73 z) D (y, S.2.1, S.2.2.1, z) := by
  obtain ⟨r1, r2, r3, r4⟩ := R
  refine ⟨by rw [zup_off (by decide), zup_off (by decide)]; exact r1, by rw [zup_ne (by decide), zup_at], zup_at _ _ _ _, fun s hs => ?_⟩
  rw [zup_off (by decide), zup_off (by decide), zup_off (by decide), zup_off (by decide)]
  exact r4 s hs
theorem mTd_v {g : zHp} {D : Nat → Int} {S : tSt} (R : mTd g D S) (w : Nat) (a b z : Int) : mTd (zup (zup (zup g 124 w a) 141 w b) 117 73 z) D (S.1, fu S.2.1 w a, fu S.2.2.1 w b, z) := by
  obtain ⟨r1, r2, r3, r4⟩ := R
  refine ⟨by rw [zup_off (by decide), zup_off (by decide), zup_off (by decide)]; exact r1, by rw [zup_ne (by decide), zup_off (by decide), zup_off (by decide)]; exact r2, zup_at _ _ _ _, fun s hs => ?_⟩
  have q := r4 s hs
  unfold fu
  rw [zup_off (by decide), zup_off (show ¬ 124 = 141 by decide), zup_off (show ¬ 141 = 117 by decide)]
  by_cases e : s = w
  · subst e
    exact ⟨by rw [zup_at]; exact (if_pos rfl).symm, by rw [zup_at]; exact (if_pos rfl).symm⟩
  · exact ⟨by rw [zup_ne (by omega)]; exact q.1.trans (if_neg e).symm, by rw [zup_ne (by omega), zup_off (by decide)]; exact q.2.trans (if_neg e).symm⟩
theorem tG_v {D : Nat → Int} {S : tSt} {n : Nat} (G : tG D n S) : vB D S.2.1 := fun s hs => by have := G.2.1 s hs; omega
theorem r_toldBy_3 (h : zHp) (D : Nat → Int) (hD : h 122 = D) (hb : dB D) (t : Nat) (ht : t < 4) (n : Nat) (hn : n ≤ 20) (hnn : (n : Int) ≤ h 119 t) (h60 : h 119 t ≤ 60) (hok : okN D (nums h t) n = true) : ∀ (r k : Nat) (g : zHp) (S : tSt), k + r = n → tdF D (nums h t) k = some S → tG D k S → mTd g D S → zMf h g → g 120 = h 120 → zRW mX12_toldBy 2 (0, 0) 170 [zA 117, zI t, zI n, zI k, zU, zU] [] 143 g (zqi (fun v h' => (∀ S : tSt, tdF D (nums h t) n = some S → (0 : Int) = v ∧ mTd h' D S ∧ h' 117 25 = sumN S.2.1 (nS D) ∧ tG D n S) ∧ (tdF D (nums h t) n = none → (9 : Int) = v) ∧ zMf h h')) := by
  have hN := nN_eq hb
  have hS := nS_eq hb
  have hN8 := nN_le hb
  have hS20 := nS_le hb
  have hb2 := hb.2.2.1
  intro r
  induction r using Nat.strongRecOn with
  | ind r ih =>
    intro k g S hk htd hG hR hmf h120
    have hnu : nums g t k = nums h t k := by unfold nums; rw [h120]
    obtain ⟨r1, r2, r3, r4⟩ := id hR
    refine z_il3 eX12_toldBy_170 ?_
    refine z_il2 eX12_toldBy_171 ?_
    refine z_cge eX12_toldBy_172 rfl (fun c172 => ?_) (fun c172 => ?_)
    · have e : k = n := by omega
      subst e
      have hvb2 : vB D (g 124) := vB_congr (fun s hs => (r4 s hs).1.symm) (tG_v hG)
      refine z_al0 eX12_toldBy_364 ?_
      refine zc_vv0 eX12_toldBy_365 lX12_348 tX12_sumVoters zs117 (by decide) (Nat.le_of_ble_eq_true rfl) (r_sumVoters g D (g 124) r1 rfl hb hvb2) ?_
      rintro _ rfl
      refine z_ki eX12_toldBy_368 ?_
      refine ze_i eX12_toldBy_369 rfl ?_
      refine ⟨fun S3 h3 => ?_, fun q => (by rw [htd] at q; cases q), hmf.up (by omega) (by omega) rfl⟩
      rw [htd] at h3
      cases h3
      refine ⟨rfl, ⟨by rw [zup_off (by decide)]; exact r1, by rw [zup_ne (by decide)]; exact r2, by rw [zup_ne (by decide)]; exact r3, fun s hs => by rw [zup_off (by decide), zup_off (by decide)]; exact r4 s hs⟩, ?_, hG⟩
      rw [zup_at]
      exact sumN_congr _ (fun s hs => (r4 s hs).1)
    · have okk := okN_all hok k (by omega)
      obtain ⟨o1, o2, o3, o4, o5⟩ := okB_ok hb okk
      have hSb := p2_256 hb hG.1
      have hGp := hG.2.2
      refine z_al0 eX12_toldBy_175 ?_
      refine z_il1 eX12_toldBy_176 ?_
      refine z_il3 eX12_toldBy_177 ?_
      refine zc_vj2 eX12_toldBy_178 lX12_334 tX12_numberOf zs117 (by decide) (Nat.le_of_ble_eq_true rfl) (r_numberOf _ t k ht (by omega)) ?_
      rintro _ _ ⟨rfl, rfl⟩ -
      rw [hnu]
      refine z_rg (fun _ hst9 _ => ?_)
      have hx64 : z64 (nums h t k) := hst9 (zJ (nums h t k)) (by simp)
      refine z_kj eX12_toldBy_181 ?_
      refine z_ldiv eX12_toldBy_184 (by omega) ?_
      rw [zldiv_e hx64 (by omega) (by omega) (by omega)]
      refine z_l2i eX12_toldBy_185 ?_
      rw [zl2i_i (by unfold z32; omega)]
      have hw : nums h t k / 4 = (((nums h t k / 4).toNat : Nat) : Int) := by omega
      refine z_is4 eX12_toldBy_186 zn0 ?_
      refine z_al0 eX12_toldBy_188 ?_
      refine z_il1 eX12_toldBy_189 ?_
      refine z_il3 eX12_toldBy_190 ?_
      refine zc_vj2 eX12_toldBy_191 lX12_334 tX12_numberOf zs117 (by decide) (Nat.le_of_ble_eq_true rfl) (r_numberOf _ t k ht (by omega)) ?_
      rintro _ _ ⟨rfl, rfl⟩ -
      rw [hnu]
      refine z_kj eX12_toldBy_194 ?_
      refine z_lrem eX12_toldBy_197 (by omega) ?_
      rw [zlrem_e hx64 (by omega) (by omega) (by omega)]
      refine z_l2i eX12_toldBy_198 ?_
      rw [zl2i_i (by unfold z32; omega)]
      refine z_is5 eX12_toldBy_199 zn0 ?_
      refine z_il5 eX12_toldBy_201 ?_
      refine z_ki eX12_toldBy_203 ?_
      refine z_cge eX12_toldBy_204 rfl (fun c204 => ?_) (fun c204 => ?_)
      · refine z_il5 eX12_toldBy_224 ?_
        refine z_ki eX12_toldBy_226 ?_
        refine z_cne eX12_toldBy_227 rfl (fun c227 => ?_) (fun c227 => ?_)
        · refine z_il5 eX12_toldBy_240 ?_
          refine z_ki eX12_toldBy_242 ?_
          refine z_cne eX12_toldBy_243 rfl (fun c243 => ?_) (fun c243 => ?_)
          · exfalso; omega
          · have o5 := o5 (by omega)
            have rw4 := r4 (nums h t k / 4).toNat (by omega)
            have gw := hG.2.1 (nums h t k / 4).toNat (by omega)
            refine z_al0 eX12_toldBy_246 ?_
            refine z_ga eX12_toldBy_247 fX12_41 zs117 (t := 124) rfl ?_
            refine z_il4 eX12_toldBy_250 ?_
            refine zr_iN eX12_toldBy_252 zs124 (j := (nums h t k / 4).toNat) (by omega) (by omega) ?_
            rw [rw4.1]
            refine z_ine eX12_toldBy_253 rfl (fun c253 => ?_) (fun c253 => ?_)
            · refine z_il5 eX12_toldBy_259 ?_
              refine z_ki eX12_toldBy_261 ?_
              refine z_cge eX12_toldBy_262 rfl (fun c262 => ?_) (fun c262 => ?_)
              · refine z_al0 eX12_toldBy_281 ?_
                refine z_ga eX12_toldBy_282 fX12_41 zs117 (t := 124) rfl ?_
                refine z_il4 eX12_toldBy_285 ?_
                refine z_dup2 eX12_toldBy_287 zn0 zn2 ?_
                refine zr_iN eX12_toldBy_288 zs124 (j := (nums h t k / 4).toNat) (by omega) (by omega) ?_
                rw [rw4.1]
                refine z_il5 eX12_toldBy_289 ?_
                refine z_ki eX12_toldBy_291 ?_
                refine z_cne eX12_toldBy_292 rfl (fun c292 => ?_) (fun c292 => ?_)
                · refine z_ki eX12_toldBy_299 ?_
                  refine z_iaddN eX12_toldBy_300 (by omega) (by omega) ?_
                  refine zs_iN eX12_toldBy_301 zs124 (j := (nums h t k / 4).toNat) (by omega) (by omega) ?_
                  refine z_il5 eX12_toldBy_302 ?_
                  refine z_ki eX12_toldBy_304 ?_
                  refine z_cle eX12_toldBy_305 rfl (fun c305 => ?_) (fun c305 => ?_)
                  · exfalso; omega
                  · refine z_al0 eX12_toldBy_308 ?_
                    refine z_ga eX12_toldBy_309 fX12_95 zs117 (t := 141) rfl ?_
                    refine z_il4 eX12_toldBy_312 ?_
                    refine z_dup2 eX12_toldBy_314 zn0 zn2 ?_
                    refine zr_iN eX12_toldBy_315 zs141 (j := (nums h t k / 4).toNat) (by omega) (by omega) ?_
                    rw [zup_off (by decide), rw4.2]
                    refine z_il5 eX12_toldBy_316 ?_
                    refine z_ki eX12_toldBy_318 ?_
                    refine z_cne eX12_toldBy_319 rfl (fun c319 => ?_) (fun c319 => ?_)
                    · refine z_ki eX12_toldBy_326 ?_
                      refine z_iaddN eX12_toldBy_327 (by omega) (by omega) ?_
                      refine zs_iN eX12_toldBy_328 zs141 (j := (nums h t k / 4).toNat) (by omega) (by omega) ?_
                      refine z_al0 eX12_toldBy_329 ?_
                      refine z_dup eX12_toldBy_330 zn2 ?_
                      refine z_gi eX12_toldBy_331 fX12_345 zs117 ?_
                      rw [zup_off (by decide), zup_off (by decide), r3]
                      refine z_al0 eX12_toldBy_334 ?_
                      refine z_ga eX12_toldBy_335 fX12_35 zs117 (t := 122) rfl ?_
                      refine z_il5 eX12_toldBy_338 ?_
                      refine z_ki eX12_toldBy_340 ?_
                      refine z_cge eX12_toldBy_341 rfl (fun c341 => ?_) (fun c341 => ?_)
                      · refine z_ki eX12_toldBy_348 ?_
                        refine z_il4 eX12_toldBy_350 ?_
                        refine z_iaddN eX12_toldBy_352 (by omega) (by omega) ?_
                        refine zr_iN eX12_toldBy_353 zs122 (j := 60 + (nums h t k / 4).toNat) (by omega) (by omega) ?_
                        have hcb := hb.2.2.2.2.1 (nums h t k / 4).toNat (by omega)
                        rw [zup_off (by decide), zup_off (by decide), r1]
                        refine z_iaddN eX12_toldBy_354 (by omega) (by omega) ?_
                        refine z_pi eX12_toldBy_355 pX12_345 zs117 ?_
                        refine z_incN3 eX12_toldBy_358 zn0 (by omega) (by omega) ?_
                        refine z_goto eX12_toldBy_361 rfl ?_
                        refine z_fg4 ?_
                        refine z_fg5 ?_
                        have hts : tdS D (nums h t k) S = some (S.1, fu S.2.1 (nums h t k / 4).toNat (S.2.1 (nums h t k / 4).toNat + -1), fu S.2.2.1 (nums h t k / 4).toNat (S.2.2.1 (nums h t k / 4).toNat + 1), S.2.2.2 + D (60 + (nums h t k / 4).toNat)) := by
                          unfold tdS
                          rw [if_neg (by omega), if_neg (by omega), if_neg c253, Int.sub_neg]
                        have hG2 := tdS_G hb okk hG hts
                        refine ih (r - 1) (by omega) (k + 1) _ _ (by omega) (by rw [tdF_s htd]; exact hts) hG2 (mTd_v hR _ _ _ _) (((hmf.up (by omega) (by omega) rfl).up (by omega) (by omega) rfl).up (by omega) (by omega) rfl) ?_
                        rw [zup_off (by decide), zup_off (by decide), zup_off (by decide)]; exact h120
                      · exfalso; omega
                    · exfalso; omega
                · exfalso; omega
              · exfalso; omega
            · refine z_ki eX12_toldBy_256 ?_
              refine ze_i eX12_toldBy_258 rfl ?_
              have hts : tdS D (nums h t k) S = none := by
                unfold tdS
                rw [if_neg (by omega), if_neg (by omega), if_pos c253]
              have hno := tdF_none (k := k + 1) (by rw [tdF_s htd]; exact hts) n (by omega)
              exact ⟨fun S3 h3 => (by rw [hno] at h3; cases h3), fun _ => rfl, hmf⟩
        · have o5 := o5 (by omega)
          have rw4 := r4 (nums h t k / 4).toNat (by omega)
          have gw := hG.2.1 (nums h t k / 4).toNat (by omega)
          refine z_al0 eX12_toldBy_230 ?_
          refine z_ga eX12_toldBy_231 fX12_95 zs117 (t := 141) rfl ?_
          refine z_il4 eX12_toldBy_234 ?_
          refine zr_iN eX12_toldBy_236 zs141 (j := (nums h t k / 4).toNat) (by omega) (by omega) ?_
          rw [rw4.2]
          refine z_ieq eX12_toldBy_237 rfl (fun c237 => ?_) (fun c237 => ?_)
          · refine z_ki eX12_toldBy_256 ?_
            refine ze_i eX12_toldBy_258 rfl ?_
            have hts : tdS D (nums h t k) S = none := by
              unfold tdS
              rw [if_neg (by omega), if_pos (by omega), if_pos c237]
            have hno := tdF_none (k := k + 1) (by rw [tdF_s htd]; exact hts) n (by omega)
            exact ⟨fun S3 h3 => (by rw [hno] at h3; cases h3), fun _ => rfl, hmf⟩
          · refine z_il5 eX12_toldBy_240 ?_
            refine z_ki eX12_toldBy_242 ?_
            refine z_cne eX12_toldBy_243 rfl (fun c243 => ?_) (fun c243 => ?_)
            · refine z_il5 eX12_toldBy_259 ?_
              refine z_ki eX12_toldBy_261 ?_
              refine z_cge eX12_toldBy_262 rfl (fun c262 => ?_) (fun c262 => ?_)
              · refine z_al0 eX12_toldBy_281 ?_
                refine z_ga eX12_toldBy_282 fX12_41 zs117 (t := 124) rfl ?_
                refine z_il4 eX12_toldBy_285 ?_
                refine z_dup2 eX12_toldBy_287 zn0 zn2 ?_
                refine zr_iN eX12_toldBy_288 zs124 (j := (nums h t k / 4).toNat) (by omega) (by omega) ?_
                rw [rw4.1]
                refine z_il5 eX12_toldBy_289 ?_
                refine z_ki eX12_toldBy_291 ?_
                refine z_cne eX12_toldBy_292 rfl (fun c292 => ?_) (fun c292 => ?_)
                · exfalso; omega
                · refine z_ki eX12_toldBy_295 ?_
                  refine z_goto eX12_toldBy_296 rfl ?_
                  refine z_iaddN eX12_toldBy_300 (by omega) (by omega) ?_
                  refine zs_iN eX12_toldBy_301 zs124 (j := (nums h t k / 4).toNat) (by omega) (by omega) ?_
                  refine z_il5 eX12_toldBy_302 ?_
                  refine z_ki eX12_toldBy_304 ?_
                  refine z_cle eX12_toldBy_305 rfl (fun c305 => ?_) (fun c305 => ?_)
                  · exfalso; omega
                  · refine z_al0 eX12_toldBy_308 ?_
                    refine z_ga eX12_toldBy_309 fX12_95 zs117 (t := 141) rfl ?_
                    refine z_il4 eX12_toldBy_312 ?_
                    refine z_dup2 eX12_toldBy_314 zn0 zn2 ?_
                    refine zr_iN eX12_toldBy_315 zs141 (j := (nums h t k / 4).toNat) (by omega) (by omega) ?_
                    rw [zup_off (by decide), rw4.2]
                    refine z_il5 eX12_toldBy_316 ?_
                    refine z_ki eX12_toldBy_318 ?_
                    refine z_cne eX12_toldBy_319 rfl (fun c319 => ?_) (fun c319 => ?_)
                    · exfalso; omega
                    · refine z_ki eX12_toldBy_322 ?_
                      refine z_goto eX12_toldBy_323 rfl ?_
                      refine z_iaddN eX12_toldBy_327 (by omega) (by omega) ?_
                      refine zs_iN eX12_toldBy_328 zs141 (j := (nums h t k / 4).toNat) (by omega) (by omega) ?_
                      refine z_al0 eX12_toldBy_329 ?_
                      refine z_dup eX12_toldBy_330 zn2 ?_
                      refine z_gi eX12_toldBy_331 fX12_345 zs117 ?_
                      rw [zup_off (by decide), zup_off (by decide), r3]
                      refine z_al0 eX12_toldBy_334 ?_
                      refine z_ga eX12_toldBy_335 fX12_35 zs117 (t := 122) rfl ?_
                      refine z_il5 eX12_toldBy_338 ?_
                      refine z_ki eX12_toldBy_340 ?_
                      refine z_cge eX12_toldBy_341 rfl (fun c341 => ?_) (fun c341 => ?_)
                      · refine z_ki eX12_toldBy_348 ?_
                        refine z_il4 eX12_toldBy_350 ?_
                        refine z_iaddN eX12_toldBy_352 (by omega) (by omega) ?_
                        refine zr_iN eX12_toldBy_353 zs122 (j := 60 + (nums h t k / 4).toNat) (by omega) (by omega) ?_
                        have hcb := hb.2.2.2.2.1 (nums h t k / 4).toNat (by omega)
                        rw [zup_off (by decide), zup_off (by decide), r1]
                        refine z_iaddN eX12_toldBy_354 (by omega) (by omega) ?_
                        refine z_pi eX12_toldBy_355 pX12_345 zs117 ?_
                        refine z_incN3 eX12_toldBy_358 zn0 (by omega) (by omega) ?_
                        refine z_goto eX12_toldBy_361 rfl ?_
                        refine z_fg4 ?_
                        refine z_fg5 ?_
                        have hts : tdS D (nums h t k) S = some (S.1, fu S.2.1 (nums h t k / 4).toNat (S.2.1 (nums h t k / 4).toNat + 1), fu S.2.2.1 (nums h t k / 4).toNat (S.2.2.1 (nums h t k / 4).toNat + -1), S.2.2.2 + D (60 + (nums h t k / 4).toNat)) := by
                          unfold tdS
                          rw [if_neg (by omega), if_pos (by omega), if_neg c237, Int.sub_eq_add_neg]
                        have hG2 := tdS_G hb okk hG hts
                        refine ih (r - 1) (by omega) (k + 1) _ _ (by omega) (by rw [tdF_s htd]; exact hts) hG2 (mTd_v hR _ _ _ _) (((hmf.up (by omega) (by omega) rfl).up (by omega) (by omega) rfl).up (by omega) (by omega) rfl) ?_
                        rw [zup_off (by decide), zup_off (by decide), zup_off (by decide)]; exact h120
                      · exfalso; omega
              · exfalso; omega
            · exfalso; omega
      · have o4 := o4 (by omega)
        refine z_al0 eX12_toldBy_207 ?_
        refine z_gi eX12_toldBy_208 fX12_342 zs117 ?_
        refine z_il4 eX12_toldBy_211 ?_
        refine z_ishr eX12_toldBy_213 ?_
        refine z_ki eX12_toldBy_214 ?_
        refine z_iand eX12_toldBy_215 ?_
        rw [r2, hw, kb_bit (by omega) (by omega)]
        refine z_il5 eX12_toldBy_216 ?_
        refine z_ceq eX12_toldBy_218 rfl (fun c218 => ?_) (fun c218 => ?_)
        · refine z_il5 eX12_toldBy_224 ?_
          refine z_ki eX12_toldBy_226 ?_
          refine z_cne eX12_toldBy_227 rfl (fun c227 => ?_) (fun c227 => ?_)
          · refine z_il5 eX12_toldBy_240 ?_
            refine z_ki eX12_toldBy_242 ?_
            refine z_cne eX12_toldBy_243 rfl (fun c243 => ?_) (fun c243 => ?_)
            · refine z_il5 eX12_toldBy_259 ?_
              refine z_ki eX12_toldBy_261 ?_
              refine z_cge eX12_toldBy_262 rfl (fun c262 => ?_) (fun c262 => ?_)
              · exfalso; omega
              · have hp2 := Nat.pow_le_pow_right (n := 2) (by omega) (show (nums h t k / 4).toNat ≤ 7 by omega)
                refine z_al0 eX12_toldBy_265 ?_
                refine z_dup eX12_toldBy_266 zn2 ?_
                refine z_gi eX12_toldBy_267 fX12_342 zs117 ?_
                refine z_ki eX12_toldBy_270 ?_
                refine z_il4 eX12_toldBy_271 ?_
                refine z_ishl eX12_toldBy_273 ?_
                refine z_ixor eX12_toldBy_274 ?_
                rw [r2, kb_shl1 (by omega), kb_xor (by omega) (by omega)]
                refine z_pi eX12_toldBy_275 pX12_342 zs117 ?_
                refine z_goto eX12_toldBy_278 rfl ?_
                refine z_il5 eX12_toldBy_302 ?_
                refine z_ki eX12_toldBy_304 ?_
                refine z_cle eX12_toldBy_305 rfl (fun c305 => ?_) (fun c305 => ?_)
                · refine z_al0 eX12_toldBy_329 ?_
                  refine z_dup eX12_toldBy_330 zn2 ?_
                  refine z_gi eX12_toldBy_331 fX12_345 zs117 ?_
                  rw [zup_ne (by decide), r3]
                  refine z_al0 eX12_toldBy_334 ?_
                  refine z_ga eX12_toldBy_335 fX12_35 zs117 (t := 122) rfl ?_
                  refine z_il5 eX12_toldBy_338 ?_
                  refine z_ki eX12_toldBy_340 ?_
                  refine z_cge eX12_toldBy_341 rfl (fun c341 => ?_) (fun c341 => ?_)
                  · exfalso; omega
                  · refine z_ki eX12_toldBy_344 ?_
                    refine z_goto eX12_toldBy_345 rfl ?_
                    refine z_il4 eX12_toldBy_350 ?_
                    refine z_iaddN eX12_toldBy_352 (by omega) (by omega) ?_
                    refine zr_iN eX12_toldBy_353 zs122 (j := 3 + (nums h t k / 4).toNat) (by omega) (by omega) ?_
                    have hcb := hb.2.2.2.2.2.1 (nums h t k / 4).toNat (by omega)
                    rw [zup_off (by decide), r1]
                    refine z_iaddN eX12_toldBy_354 (by omega) (by omega) ?_
                    refine z_pi eX12_toldBy_355 pX12_345 zs117 ?_
                    refine z_incN3 eX12_toldBy_358 zn0 (by omega) (by omega) ?_
                    refine z_goto eX12_toldBy_361 rfl ?_
                    refine z_fg4 ?_
                    refine z_fg5 ?_
                    have hts : tdS D (nums h t k) S = some (S.1 ^^^ 2 ^ (nums h t k / 4).toNat, S.2.1, S.2.2.1, S.2.2.2 + D (3 + (nums h t k / 4).toNat)) := by
                      unfold tdS
                      rw [if_pos (by omega), if_pos (by unfold bv; exact c218)]
                    have hG2 := tdS_G hb okk hG hts
                    refine ih (r - 1) (by omega) (k + 1) _ _ (by omega) (by rw [tdF_s htd]; exact hts) hG2 (mTd_n hR _ _) ((hmf.up (by omega) (by omega) rfl).up (by omega) (by omega) rfl) ?_
                    rw [zup_off (by decide), zup_off (by decide)]; exact h120
                · exfalso; omega
            · exfalso; omega
          · exfalso; omega
        · refine z_ki eX12_toldBy_221 ?_
          refine ze_i eX12_toldBy_223 rfl ?_
          have hts : tdS D (nums h t k) S = none := by
            unfold tdS
            rw [if_pos (by omega), if_neg (by unfold bv; exact c218)]
          have hno := tdF_none (k := k + 1) (by rw [tdF_s htd]; exact hts) n (by omega)
          exact ⟨fun S3 h3 => (by rw [hno] at h3; cases h3), fun _ => rfl, hmf⟩
theorem r_toldBy_2 (h : zHp) (D : Nat → Int) (hD : h 122 = D) (hb : dB D) (hst : D 2 < ((2 ^ nN D : Nat) : Int)) (t : Nat) (ht : t < 4) (n : Nat) (hn : n ≤ 20) (hnn : (n : Int) ≤ h 119 t) (h60 : h 119 t ≤ 60) (hok : okN D (nums h t) n = true) : ∀ (r k : Nat) (g : zHp), k + r = nS D → g 122 = D → g 117 72 = D 2 → g 117 73 = 0 → (∀ s : Nat, s < nS D → g 124 s = D (20 + s)) → (∀ s : Nat, s < k → g 141 s = D (40 + s)) → zMf h g → g 120 = h 120 → zRW mX12_toldBy 2 (0, 0) 137 [zA 117, zI t, zI n, zI k, zU, zU] [] 143 g (zqi (fun v h' => (∀ S : tSt, tdF D (nums h t) n = some S → (0 : Int) = v ∧ mTd h' D S ∧ h' 117 25 = sumN S.2.1 (nS D) ∧ tG D n S) ∧ (tdF D (nums h t) n = none → (9 : Int) = v) ∧ zMf h h')) := by
  have hN := nN_eq hb
  have hS := nS_eq hb
  have hN8 := nN_le hb
  have hS20 := nS_le hb
  have hb2 := hb.2.2.1
  intro r
  induction r using Nat.strongRecOn with
  | ind r ih =>
    intro k g hk r1 r2 r3 r4 r5 hmf h120
    have d1 : g 122 1 = (nS D : Int) := by rw [r1]; exact hS
    refine z_il3 eX12_toldBy_137 ?_
    refine z_al0 eX12_toldBy_138 ?_
    refine z_ga eX12_toldBy_139 fX12_35 zs117 (t := 122) rfl ?_
    refine z_ki eX12_toldBy_142 ?_
    refine zr_iN eX12_toldBy_143 zs122 (j := 1) (by omega) (by omega) ?_
    refine z_cge eX12_toldBy_144 rfl (fun c144 => ?_) (fun c144 => ?_)
    · refine z_ki eX12_toldBy_168 ?_
      refine z_is3 eX12_toldBy_169 zn0 ?_
      have e : k = nS D := by omega
      subst e
      exact r_toldBy_3 h D hD hb t ht n hn hnn h60 hok n 0 g ((D 2).toNat, inOf D, (fun s => D (40 + s)), 0) (Nat.zero_add _) rfl (tdF_0 hb hst) ⟨r1, r2.trans (stN hb), r3, fun s hs => ⟨r4 s hs, r5 s hs⟩⟩ hmf h120
    · refine z_al0 eX12_toldBy_147 ?_
      refine z_ga eX12_toldBy_148 fX12_95 zs117 (t := 141) rfl ?_
      refine z_il3 eX12_toldBy_151 ?_
      refine z_al0 eX12_toldBy_152 ?_
      refine z_ga eX12_toldBy_153 fX12_35 zs117 (t := 122) rfl ?_
      refine z_ki eX12_toldBy_156 ?_
      refine z_il3 eX12_toldBy_158 ?_
      refine z_iaddN eX12_toldBy_159 (by omega) (by omega) ?_
      refine zr_iN eX12_toldBy_160 zs122 (j := 40 + k) (by omega) (by omega) ?_
      rw [r1]
      refine zs_iN eX12_toldBy_161 zs141 (j := k) (by omega) (by omega) ?_
      refine z_incN3 eX12_toldBy_162 zn0 (by omega) (by omega) ?_
      refine z_goto eX12_toldBy_165 rfl ?_
      refine ih (r - 1) (by omega) (k + 1) _ (by omega) ((zup_off (by decide)).trans r1) (by rw [zup_off (by decide)]; exact r2) (by rw [zup_off (by decide)]; exact r3) (fun s hs => by rw [zup_off (by decide)]; exact r4 s hs) (fun s hs => ?_) (hmf.up (by omega) (by omega) rfl) ((zup_off (by decide)).trans h120)
      by_cases e : s = k
      · subst e; exact zup_at _ _ _ _
      · rw [zup_ne (by omega)]; exact r5 s (by omega)
theorem r_toldBy_1 (h : zHp) (D : Nat → Int) (hD : h 122 = D) (hb : dB D) (hst : D 2 < ((2 ^ nN D : Nat) : Int)) (t : Nat) (ht : t < 4) (n : Nat) (hn : n ≤ 20) (hnn : (n : Int) ≤ h 119 t) (h60 : h 119 t ≤ 60) : ∀ (r k : Nat), k + r = n → okN D (nums h t) k = true → zRW mX12_toldBy 2 (0, 0) 49 [zA 117, zI t, zI n, zI k, zU, zU] [] 143 h (zqi (fun v h' => (okN D (nums h t) n = true → (∀ S : tSt, tdF D (nums h t) n = some S → (0 : Int) = v ∧ mTd h' D S ∧ h' 117 25 = sumN S.2.1 (nS D) ∧ tG D n S) ∧ (tdF D (nums h t) n = none → (9 : Int) = v)) ∧ (¬ okN D (nums h t) n = true → (5 : Int) = v) ∧ zMf h h')) := by
  subst hD
  have hN := nN_eq hb
  have hS := nS_eq hb
  have hN8 := nN_le hb
  have hS20 := nS_le hb
  have hb2 := hb.2.2.1
  intro r
  induction r using Nat.strongRecOn with
  | ind r ih =>
    intro k hk hok
    refine z_il3 eX12_toldBy_49 ?_
    refine z_il2 eX12_toldBy_50 ?_
    refine z_cge eX12_toldBy_51 rfl (fun c51 => ?_) (fun c51 => ?_)
    · have e : k = n := by omega
      subst e
      refine z_al0 eX12_toldBy_116 ?_
      refine zc_vv0 eX12_toldBy_117 lX12_320 tX12_countAll zs117 (by decide) (Nat.le_of_ble_eq_true rfl) (r_countAll _ _ rfl hb) ?_
      rintro _ rfl
      refine z_al0 eX12_toldBy_120 ?_
      refine z_al0 eX12_toldBy_121 ?_
      refine z_ga eX12_toldBy_122 fX12_35 zs117 (t := 122) rfl ?_
      refine z_ki eX12_toldBy_125 ?_
      refine zr_iN eX12_toldBy_126 zs122 (j := 2) (by omega) (by omega) ?_
      rw [cA_off (by decide) (by decide)]
      refine z_pi eX12_toldBy_127 pX12_342 zs117 ?_
      refine z_al0 eX12_toldBy_130 ?_
      refine z_ki eX12_toldBy_131 ?_
      refine z_pi eX12_toldBy_132 pX12_345 zs117 ?_
      refine z_ki eX12_toldBy_135 ?_
      refine z_is3 eX12_toldBy_136 zn0 ?_
      refine z_wk ?_ (r_toldBy_2 h (h 122) rfl hb hst t ht k hn hnn h60 hok (nS (h 122)) 0 _ (Nat.zero_add _) ?_ ?_ ?_ ?_ (fun s hs => by omega) ?_ ?_)
      · rintro _ _ h1 ⟨a, v, b, d1, d2, d3⟩
        exact ⟨a, v, b, fun _ => ⟨d1, d2⟩, fun q => absurd hok q, d3⟩
      · rw [zup_off (by decide), zup_off (by decide), cA_off (by decide) (by decide)]
      · rw [zup_ne (by decide), zup_at]
      · rw [zup_at]
      · intro s hs; rw [zup_off (by decide), zup_off (by decide), cA_v hs]; rfl
      · exact ((zMf.rf.cA _ _ _).up (by omega) (by omega) rfl).up (by omega) (by omega) rfl
      · rw [zup_off (by decide), zup_off (by decide), cA_off (by decide) (by decide)]
    · refine z_al0 eX12_toldBy_54 ?_
      refine z_il1 eX12_toldBy_55 ?_
      refine z_il3 eX12_toldBy_56 ?_
      refine zc_vj2 eX12_toldBy_57 lX12_334 tX12_numberOf zs117 (by decide) (Nat.le_of_ble_eq_true rfl) (r_numberOf _ t k ht (by omega)) ?_
      rintro _ _ ⟨rfl, rfl⟩ -
      refine z_rg (fun _ hst9 _ => ?_)
      have hx64 : z64 (nums h t k) := hst9 (zJ (nums h t k)) (by simp)
      refine z_ls4 eX12_toldBy_60 zn0 ?_
      refine z_ll4 eX12_toldBy_62 ?_
      refine z_kj eX12_toldBy_64 ?_
      refine z_lcmp eX12_toldBy_65 ?_
      refine z_ilt eX12_toldBy_66 rfl (fun c66 => ?_) (fun c66 => ?_)
      · rw [zcmp_lt] at c66
        refine z_ki eX12_toldBy_108 ?_
        refine ze_i eX12_toldBy_109 rfl ?_
        have hno : ¬ okB (h 122) (nums h t k) = true := fun z => by
          have z := of_decide_eq_true z
          split at z <;> omega
        exact ⟨fun q => absurd q (okN_no (show k < n by omega) hno), fun _ => rfl, zMf.rf⟩
      · rw [zcmp_lt] at c66
        refine z_ll4 eX12_toldBy_69 ?_
        refine z_kj eX12_toldBy_71 ?_
        refine z_ldiv eX12_toldBy_74 (by omega) ?_
        rw [zldiv_e hx64 (by omega) (by omega) (by omega)]
        refine z_ll4 eX12_toldBy_75 ?_
        refine z_kj eX12_toldBy_77 ?_
        refine z_lrem eX12_toldBy_80 (by omega) ?_
        rw [zlrem_e hx64 (by omega) (by omega) (by omega)]
        refine z_kj eX12_toldBy_81 ?_
        refine z_lcmp eX12_toldBy_84 ?_
        refine z_ige eX12_toldBy_85 rfl (fun c85 => ?_) (fun c85 => ?_)
        · rw [zcmp_ge] at c85
          refine z_al0 eX12_toldBy_97 ?_
          refine z_ga eX12_toldBy_98 fX12_35 zs117 (t := 122) rfl ?_
          refine z_ki eX12_toldBy_101 ?_
          refine zr_iN eX12_toldBy_102 zs122 (j := 1) (by omega) (by omega) ?_
          refine z_i2l eX12_toldBy_103 ?_
          refine z_lcmp eX12_toldBy_104 ?_
          refine z_ilt eX12_toldBy_105 rfl (fun c105 => ?_) (fun c105 => ?_)
          · rw [zcmp_lt] at c105
            refine z_incN3 eX12_toldBy_110 zn0 (by omega) (by omega) ?_
            refine z_goto eX12_toldBy_113 rfl ?_
            refine z_fg4 ?_
            exact ih (r - 1) (by omega) (k + 1) (by omega) (by
              rw [okN, hok]
              show okB (h 122) (nums h t k) = true
              apply decide_eq_true
              split <;> omega)
          · rw [zcmp_lt] at c105
            refine z_ki eX12_toldBy_108 ?_
            refine ze_i eX12_toldBy_109 rfl ?_
            have hno : ¬ okB (h 122) (nums h t k) = true := fun z => by
              have z := of_decide_eq_true z
              split at z <;> omega
            exact ⟨fun q => absurd q (okN_no (show k < n by omega) hno), fun _ => rfl, zMf.rf⟩
        · rw [zcmp_ge] at c85
          refine z_al0 eX12_toldBy_88 ?_
          refine z_ga eX12_toldBy_89 fX12_35 zs117 (t := 122) rfl ?_
          refine z_ki eX12_toldBy_92 ?_
          refine zr_iN eX12_toldBy_93 zs122 (j := 0) (by omega) (by omega) ?_
          refine z_goto eX12_toldBy_94 rfl ?_
          refine z_i2l eX12_toldBy_103 ?_
          refine z_lcmp eX12_toldBy_104 ?_
          refine z_ilt eX12_toldBy_105 rfl (fun c105 => ?_) (fun c105 => ?_)
          · rw [zcmp_lt] at c105
            refine z_incN3 eX12_toldBy_110 zn0 (by omega) (by omega) ?_
            refine z_goto eX12_toldBy_113 rfl ?_
            refine z_fg4 ?_
            exact ih (r - 1) (by omega) (k + 1) (by omega) (by
              rw [okN, hok]
              show okB (h 122) (nums h t k) = true
              apply decide_eq_true
              split <;> omega)
          · rw [zcmp_lt] at c105
            refine z_ki eX12_toldBy_108 ?_
            refine ze_i eX12_toldBy_109 rfl ?_
            have hno : ¬ okB (h 122) (nums h t k) = true := fun z => by
              have z := of_decide_eq_true z
              split at z <;> omega
            exact ⟨fun q => absurd q (okN_no (show k < n by omega) hno), fun _ => rfl, zMf.rf⟩
theorem r_toldBy (h : zHp) (D : Nat → Int) (hD : h 122 = D) (hb : dB D) (hst : D 2 < ((2 ^ nN D : Nat) : Int)) (h118 : ∀ t : Nat, t < 4 → h 119 t ≤ 60) (t n : Int) : zCi mX12_toldBy 2 [zA 117, zI t, zI n] h (fun v h' => (cWhy h D t n = 0 → (∀ S : tSt, tdF D (nums h t.toNat) n.toNat = some S → (0 : Int) = v ∧ mTd h' D S ∧ h' 117 25 = sumN S.2.1 (nS D) ∧ tG D n.toNat S) ∧ (tdF D (nums h t.toNat) n.toNat = none → (9 : Int) = v)) ∧ (¬ cWhy h D t n = 0 → cWhy h D t n = v) ∧ zMf h h') := by
  refine z_enter [zA 117, zI t, zI n, zU, zU, zU] (by decide +kernel) (Nat.le_of_ble_eq_true rfl) rfl (fun hra hrg => ?_)
  refine z_al0 eX12_toldBy_0 ?_
  refine z_il1 eX12_toldBy_1 ?_
  refine zc_vi1 eX12_toldBy_2 lX12_329 tX12_isTray zs117 (by decide) (Nat.le_of_ble_eq_true rfl) (r_isTray _ _) ?_
  rintro _ _ ⟨rfl, rfl⟩ -
  refine z_ine eX12_toldBy_5 rfl (fun c5 => ?_) (fun c5 => ?_)
  · have z5 := iteT c5
    obtain ⟨t, rfl⟩ := Int.eq_ofNat_of_zero_le z5.1
    have ht : t < 4 := by omega
    have h6 := h118 t ht
    refine z_al0 eX12_toldBy_10 ?_
    refine z_ga eX12_toldBy_11 fX12_17 zs117 (t := 119) rfl ?_
    refine z_il1 eX12_toldBy_14 ?_
    refine zr_iN eX12_toldBy_15 zs119 (j := t) (by omega) (by omega) ?_
    refine z_ige eX12_toldBy_16 rfl (fun c16 => ?_) (fun c16 => ?_)
    · refine z_il2 eX12_toldBy_21 ?_
      refine z_i2l eX12_toldBy_22 ?_
      refine z_kj eX12_toldBy_23 ?_
      refine z_kj eX12_toldBy_24 ?_
      refine zc_si3 eX12_toldBy_27 lX12_133 tX12_isIn (by decide) (Nat.le_of_ble_eq_true rfl) (r_isIn _ _ _ _) ?_
      rintro _ _ ⟨rfl, rfl⟩ -
      refine z_ine eX12_toldBy_30 rfl (fun c30 => ?_) (fun c30 => ?_)
      · have z30 := iteT c30
        refine z_al0 eX12_toldBy_35 ?_
        refine z_ga eX12_toldBy_36 fX12_17 zs117 (t := 119) rfl ?_
        refine z_il1 eX12_toldBy_39 ?_
        refine zr_iN eX12_toldBy_40 zs119 (j := t) (by omega) (by omega) ?_
        refine z_il2 eX12_toldBy_41 ?_
        refine z_cge eX12_toldBy_42 rfl (fun c42 => ?_) (fun c42 => ?_)
        · refine z_ki eX12_toldBy_47 ?_
          refine z_is3 eX12_toldBy_48 zn0 ?_
          obtain ⟨n, rfl⟩ := Int.eq_ofNat_of_zero_le z30.1
          have e : cWhy h D t n = (if okN D (nums h t) n = true then 0 else 5) := by unfold cWhy; rw [Int.toNat_natCast, Int.toNat_natCast, if_pos (by omega), if_neg (by omega), if_pos (by omega), if_neg (by omega)]
          refine z_wk ?_ (r_toldBy_1 h D hD hb hst t ht n (by omega) (by omega) h6 n 0 (Nat.zero_add _) rfl)
          rintro _ _ h1 ⟨a, v, b, d1, d2, d3⟩
          refine ⟨a, v, b, fun q => ?_, fun q => ?_, d3⟩
          · have ok : okN D (nums h t) n = true := Classical.byContradiction (fun z => by rw [if_neg z] at e; omega)
            exact d1 ok
          · have ok : ¬ okN D (nums h t) n = true := fun z => by rw [if_pos z] at e; omega
            rw [e, if_neg ok]
            exact d2 ok
        · refine z_ki eX12_toldBy_45 ?_
          refine ze_i eX12_toldBy_46 rfl ?_
          have e : cWhy h D t n = 4 := by unfold cWhy; rw [Int.toNat_natCast, if_pos (by omega), if_neg (by omega), if_pos (by omega), if_pos (by omega)]
          exact ⟨fun q => by omega, fun _ => e, zMf.rf⟩
      · have z30 := iteF c30
        refine z_ki eX12_toldBy_33 ?_
        refine ze_i eX12_toldBy_34 rfl ?_
        have e : cWhy h D t n = 5 := by unfold cWhy; rw [Int.toNat_natCast, if_pos (by omega), if_neg (by omega), if_neg (by omega)]
        exact ⟨fun q => by omega, fun _ => e, zMf.rf⟩
    · refine z_ki eX12_toldBy_19 ?_
      refine ze_i eX12_toldBy_20 rfl ?_
      have e : cWhy h D t n = 3 := by unfold cWhy; rw [Int.toNat_natCast, if_pos (by omega), if_pos (by omega)]
      exact ⟨fun q => by omega, fun _ => e, zMf.rf⟩
  · have z5 := iteF c5
    refine z_ki eX12_toldBy_8 ?_
    refine ze_i eX12_toldBy_9 rfl ?_
    have e : cWhy h D t n = 1 := by unfold cWhy; rw [if_neg z5]
    exact ⟨fun q => by omega, fun _ => e, zMf.rf⟩
theorem r_told (h : zHp) (D : Nat → Int) (hD : h 122 = D) (hb : dB D) (hst : D 2 < ((2 ^ nN D : Nat) : Int)) (h118 : ∀ t : Nat, t < 4 → h 119 t ≤ 60) (t n : Int) : zCi mX12_told 7 [zA 117, zI t, zI n] h (fun v h' => pM0 h (qTold h D t n) v h') := by
  refine z_enter [zA 117, zI t, zI n, zU] (by decide +kernel) (Nat.le_of_ble_eq_true rfl) rfl (fun hra hrg => ?_)
  refine z_al0 eX12_told_0 ?_
  refine z_ki eX12_told_1 ?_
  refine z_pi eX12_told_2 pX12_98 zs117 ?_
  generalize hh : zup h 117 1 0 = h0
  have hf0 : ∀ a : Nat, ¬ a = 117 → h0 a = h a := fun a ha => by rw [← hh]; exact zup_off ha
  have D0 : h0 122 = D := (hf0 122 (by decide)).trans hD
  have ec : cWhy h0 D t n = cWhy h D t n := by unfold cWhy nums; rw [hf0 119 (by decide), hf0 120 (by decide)]
  have en : nums h0 t.toNat = nums h t.toNat := by unfold nums; rw [hf0 120 (by decide)]
  have hcn := cWhy_nn h D t n
  refine z_al0 eX12_told_5 ?_
  refine z_al0 eX12_told_6 ?_
  refine z_il1 eX12_told_7 ?_
  refine z_il2 eX12_told_8 ?_
  refine zc_vi2 eX12_told_9 lX12_351 tX12_toldBy zs117 (by decide) (Nat.le_of_ble_eq_true rfl) (r_toldBy h0 D D0 hb hst (fun t ht => by rw [hf0 119 (by decide)]; exact h118 t ht) t n) ?_
  rintro y g1 ⟨w1, w2, hmf⟩ -
  have hcs : (cWhy h D t n = 0 ∧ ∃ S : tSt, tdF D (nums h t.toNat) n.toNat = some S ∧ y = 0 ∧ mTd g1 D S ∧ g1 117 25 = sumN S.2.1 (nS D) ∧ tG D n.toNat S) ∨ (cWhy h D t n = 0 ∧ tdF D (nums h t.toNat) n.toNat = none ∧ y = 9) ∨ (¬ cWhy h D t n = 0 ∧ y = cWhy h D t n) := by
    by_cases c : cWhy h D t n = 0
    · obtain ⟨p1, p2⟩ := w1 (ec.trans c)
      rw [en] at p1 p2
      cases hc : tdF D (nums h t.toNat) n.toNat with
      | none => exact Or.inr (Or.inl ⟨c, rfl, (p2 hc).symm⟩)
      | some S => have q := p1 S hc; exact Or.inl ⟨c, S, rfl, q.1.symm, q.2⟩
    · exact Or.inr (Or.inr ⟨c, by rw [← w2 (by rw [ec]; exact c), ec]⟩)
  have hm0 : zMf h g1 := ⟨zEx.tr (by rw [← hh]; exact zEx.rf.up (Or.inl rfl)) hmf.1, fun a ha => (hmf.2.1 a ha).trans (hf0 a (by omega)), hmf.2.2.trans (by rw [← hh]; exact zup_ne (by decide))⟩
  refine z_pi eX12_told_12 pX12_101 zs117 ?_
  refine z_al0 eX12_told_15 ?_
  refine z_gi eX12_told_16 fX12_101 zs117 ?_
  rw [zup_at]
  refine z_ile eX12_told_19 rfl (fun c19 => ?_) (fun c19 => ?_)
  · have hS : ∃ S : tSt, cWhy h D t n = 0 ∧ tdF D (nums h t.toNat) n.toNat = some S ∧ y = 0 ∧ mTd g1 D S ∧ g1 117 25 = sumN S.2.1 (nS D) ∧ tG D n.toNat S := by
      rcases hcs with q | q | q
      · obtain ⟨a, S, b⟩ := q; exact ⟨S, a, b⟩
      · omega
      · omega
    obtain ⟨S, s0, s1, rfl, ⟨r1, r2, r3, r4⟩, s3, s4⟩ := hS
    refine z_al0 eX12_told_24 ?_
    refine z_al0 eX12_told_25 ?_
    refine z_gi eX12_told_26 fX12_342 zs117 ?_
    rw [zup_ne (by decide), r2]
    refine zc_vi1 eX12_told_29 lX12_323 tX12_winner zs117 (by decide) (Nat.le_of_ble_eq_true rfl) (r_winM (w := S.2.1) ⟨(zup_off (by decide)).trans r1, fun s hs => by rw [zup_off (by decide)]; exact (r4 s hs).1, by rw [zup_ne (by decide)]; exact s3⟩ hb (tG_v s4) S.1 s4.1) ?_
    rintro _ g2 ⟨rfl, hfr⟩ -
    have hm2 : zEx [] h g2 ∧ (∀ a : Nat, a < 117 → g2 a = h a) ∧ g2 117 0 = 0 := ⟨(hm0.1.up (Or.inl rfl)).fr (fun i => Or.inl rfl) hfr, fun a ha => by rw [hfr a (by omega), zup_off (by omega)]; exact hm0.2.1 a ha, by rw [hfr 117 (by decide), zup_at]⟩
    refine z_is3 eX12_told_32 zn0 ?_
    refine z_il3 eX12_told_33 ?_
    refine z_ige eX12_told_34 rfl (fun c34 => ?_) (fun c34 => ?_)
    · refine z_il3 eX12_told_46 ?_
      refine ze_i eX12_told_47 rfl ?_
      unfold qTold
      rw [if_pos s0, s1]
      simp only []
      rw [if_neg (by omega)]
      exact ⟨rfl, hm2.2.2, hm2.2.1, hm2.1⟩
    · refine z_al0 eX12_told_37 ?_
      refine z_ki eX12_told_38 ?_
      refine zc_vi1 eX12_told_40 lX12_275 tX12_refuse zs117 (by decide) (Nat.le_of_ble_eq_true rfl) (r_refuse _ _) ?_
      rintro _ _ ⟨rfl, rfl⟩ -
      refine z_goto eX12_told_43 rfl ?_
      refine ze_i eX12_told_47 rfl ?_
      unfold qTold
      rw [if_pos s0, s1]
      simp only []
      rw [if_pos (by omega)]
      exact ⟨rfl, zup_at _ _ _ _, fun a ha => (zup_off (by omega)).trans (hm2.2.1 a ha), hm2.1.up (Or.inl rfl)⟩
  · refine z_ki eX12_told_22 ?_
    refine ze_i eX12_told_23 rfl ?_
    rcases hcs with q | q | q
    · obtain ⟨-, S, -, q, -⟩ := q; omega
    · unfold qTold
      rw [if_pos q.1, q.2.1, q.2.2]
      exact ⟨rfl, zup_at _ _ _ _, fun a ha => (zup_off (by omega)).trans (hm0.2.1 a ha), hm0.1.up (Or.inl rfl)⟩
    · unfold qTold
      rw [if_neg q.1, ← q.2]
      exact ⟨rfl, zup_at _ _ _ _, fun a ha => (zup_off (by omega)).trans (hm0.2.1 a ha), hm0.1.up (Or.inl rfl)⟩
theorem r_costC (h : zHp) (D : Nat → Int) (hD : h 122 = D) (hb : dB D) (hst : D 2 < ((2 ^ nN D : Nat) : Int)) (h118 : ∀ t : Nat, t < 4 → h 119 t ≤ 60) (t n : Int) : zCi mX12_cost 3 [zA 117, zI t, zI n] h (fun v h' => pM0 h (qCost h D t n) v h') := by
  refine z_enter [zA 117, zI t, zI n] (by decide +kernel) (Nat.le_of_ble_eq_true rfl) rfl (fun hra hrg => ?_)
  refine z_al0 eX12_cost_0 ?_
  refine z_ki eX12_cost_1 ?_
  refine z_pi eX12_cost_2 pX12_98 zs117 ?_
  generalize hh : zup h 117 1 0 = h0
  have hf0 : ∀ a : Nat, ¬ a = 117 → h0 a = h a := fun a ha => by rw [← hh]; exact zup_off ha
  have D0 : h0 122 = D := (hf0 122 (by decide)).trans hD
  have ec : cWhy h0 D t n = cWhy h D t n := by unfold cWhy nums; rw [hf0 119 (by decide), hf0 120 (by decide)]
  have en : nums h0 t.toNat = nums h t.toNat := by unfold nums; rw [hf0 120 (by decide)]
  have hcn := cWhy_nn h D t n
  refine z_al0 eX12_cost_5 ?_
  refine z_al0 eX12_cost_6 ?_
  refine z_il1 eX12_cost_7 ?_
  refine z_il2 eX12_cost_8 ?_
  refine zc_vi2 eX12_cost_9 lX12_351 tX12_toldBy zs117 (by decide) (Nat.le_of_ble_eq_true rfl) (r_toldBy h0 D D0 hb hst (fun t ht => by rw [hf0 119 (by decide)]; exact h118 t ht) t n) ?_
  rintro y g1 ⟨w1, w2, hmf⟩ -
  have hcs : (cWhy h D t n = 0 ∧ ∃ S : tSt, tdF D (nums h t.toNat) n.toNat = some S ∧ y = 0 ∧ mTd g1 D S ∧ g1 117 25 = sumN S.2.1 (nS D) ∧ tG D n.toNat S) ∨ (cWhy h D t n = 0 ∧ tdF D (nums h t.toNat) n.toNat = none ∧ y = 9) ∨ (¬ cWhy h D t n = 0 ∧ y = cWhy h D t n) := by
    by_cases c : cWhy h D t n = 0
    · obtain ⟨p1, p2⟩ := w1 (ec.trans c)
      rw [en] at p1 p2
      cases hc : tdF D (nums h t.toNat) n.toNat with
      | none => exact Or.inr (Or.inl ⟨c, rfl, (p2 hc).symm⟩)
      | some S => have q := p1 S hc; exact Or.inl ⟨c, S, rfl, q.1.symm, q.2⟩
    · exact Or.inr (Or.inr ⟨c, by rw [← w2 (by rw [ec]; exact c), ec]⟩)
  have hm0 : zMf h g1 := ⟨zEx.tr (by rw [← hh]; exact zEx.rf.up (Or.inl rfl)) hmf.1, fun a ha => (hmf.2.1 a ha).trans (hf0 a (by omega)), hmf.2.2.trans (by rw [← hh]; exact zup_ne (by decide))⟩
  refine z_pi eX12_cost_12 pX12_101 zs117 ?_
  refine z_al0 eX12_cost_15 ?_
  refine z_gi eX12_cost_16 fX12_101 zs117 ?_
  rw [zup_at]
  refine z_ile eX12_cost_19 rfl (fun c19 => ?_) (fun c19 => ?_)
  · have hS : ∃ S : tSt, cWhy h D t n = 0 ∧ tdF D (nums h t.toNat) n.toNat = some S ∧ y = 0 ∧ mTd g1 D S ∧ g1 117 25 = sumN S.2.1 (nS D) ∧ tG D n.toNat S := by
      rcases hcs with q | q | q
      · obtain ⟨a, S, b⟩ := q; exact ⟨S, a, b⟩
      · omega
      · omega
    obtain ⟨S, s0, s1, rfl, ⟨r1, r2, r3, r4⟩, s3, s4⟩ := hS
    refine z_al0 eX12_cost_26 ?_
    refine z_gi eX12_cost_27 fX12_345 zs117 ?_
    rw [zup_ne (by decide), r3]
    refine ze_i eX12_cost_30 rfl ?_
    unfold qCost
    rw [if_pos s0, s1]
    exact ⟨rfl, zup_at _ _ _ _, fun a ha => (zup_off (by omega)).trans (hm0.2.1 a ha), hm0.1.up (Or.inl rfl)⟩
  · refine z_ki eX12_cost_22 ?_
    refine z_goto eX12_cost_23 rfl ?_
    refine ze_i eX12_cost_30 rfl ?_
    rcases hcs with q | q | q
    · obtain ⟨-, S, -, q, -⟩ := q; omega
    · unfold qCost
      rw [if_pos q.1, q.2.1, q.2.2]
      exact ⟨rfl, zup_at _ _ _ _, fun a ha => (zup_off (by omega)).trans (hm0.2.1 a ha), hm0.1.up (Or.inl rfl)⟩
    · unfold qCost
      rw [if_neg q.1, ← q.2]
      exact ⟨rfl, zup_at _ _ _ _, fun a ha => (zup_off (by omega)).trans (hm0.2.1 a ha), hm0.1.up (Or.inl rfl)⟩
