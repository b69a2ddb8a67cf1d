-- the class's rule, both sides put together (written by wip/tools/specB3.py)
theorem kdF_k {B : Nat → Int} {L q : Nat} (h : isK B L q 7 ∨ isK B L q 8 ∨ isK B L q 9 ∨ isK B L q 10 ∨ isK B L q 11 ∨ isK B L q 12) : ¬ kdF B L q = -1 := by
  unfold kdF
  intro z
  (repeat' split at z) <;> first | omega | (rcases h with y | y | y | y | y | y <;> contradiction)
theorem eachP_e {D D2 : Nat → Int} {c : Nat} (hb : 0 ≤ D (249 + c) ∧ D (249 + c) ≤ 8) (e : ∀ j : Nat, (j = 241 + c ∨ j = 245 + c ∨ j = 249 + c ∨ (253 + 8 * c ≤ j ∧ j < 253 + 8 * c + 8)) → D2 j = D j) (p : Int) : eachP D2 c p = eachP D c p := by
  unfold eachP
  rw [e (241 + c) (by omega), e (245 + c) (by omega), e (249 + c) (by omega)]
  by_cases z : p < D (249 + c)
  · rw [e (253 + 8 * c + p.toNat) (by omega)]
  · rw [if_neg z, if_neg z]
theorem clR.cg {h g : zHp} {D D2 : Nat → Int} {c : Nat} (H : clR h 28 D c) (hb : 0 ≤ D (249 + c) ∧ D (249 + c) ≤ 8) (e29 : g 29 c = h 29 c) (e30 : g 30 c = h 30 c) (e31 : ∀ i : Nat, i < 8 → g 31 (8 * c + i) = h 31 (8 * c + i)) (e : ∀ j : Nat, (j = 241 + c ∨ j = 245 + c ∨ j = 249 + c ∨ (253 + 8 * c ≤ j ∧ j < 253 + 8 * c + 8)) → D2 j = D j) : clR g 28 D2 c := by
  obtain ⟨h1, h2, h3, h4⟩ := H
  unfold clR
  rw [e (241 + c) (by omega), e (245 + c) (by omega)]
  refine ⟨fun z => e29.trans (h1 z), fun z => e29.trans (h2 z), fun z => ⟨e29.trans (h3 z).1, e30.trans (h3 z).2⟩, fun z => ?_⟩
  obtain ⟨y1, mn, y2, y3, y4, y5⟩ := h4 z
  exact ⟨e29.trans y1, mn, y2, e30.trans y3, fun i hi => by rw [eachP_e hb e]; exact (e31 i (by omega)).trans (y4 i hi), fun q hq => by rw [eachP_e hb e]; exact y5 q hq⟩
/-- the class's new rule has c clauses, as D tells them -/
def rI (h : zHp) (D : Nat → Int) (c : Nat) : Prop := h 28 0 = (c : Int) ∧ D 240 = (c : Int) ∧ ∀ k : Nat, k < c → clR h 28 D k ∧ 0 ≤ D (249 + k) ∧ D (249 + k) ≤ 8
theorem rI.fr {h g : zHp} {D : Nat → Int} {c : Nat} (I : rI h D c) (F : xFr h g) : rI g D c := ⟨by rw [F.1 28 (by decide)]; exact I.1, I.2.1, fun k hk => ⟨(I.2.2 k hk).1.fr F, (I.2.2 k hk).2⟩⟩
/-- the class after a rule's text -/
def xRu (h0 : zHp) (R : Rh) (v : Int) (g : zHp) : Prop := match R with
  | .inl e => (0 : Int) = v ∧ xXs 28 31 h0 e.1 e.2 g
  | .inr s => (1 : Int) = v ∧ xHf 28 31 h0 g ∧ g 2 8 = 0 ∧ g 2 9 = -1 ∧ ∃ c : Nat, c ≤ 4 ∧ rI g s.2.1 c
theorem xRu01 {h0 g : zHp} {R : Rh} {v : Int} (H : xRu h0 R v g) : v = 0 ∨ v = 1 := by
  cases R with
  | inl e => exact Or.inl H.1.symm
  | inr s => exact Or.inr H.1.symm
theorem x_isKey (h : zHp) (B : Nat → Int) (L : Nat) (hB : xB h B L) (q : Nat) (hq : q ≤ L) (T : xTk B L q h) : zCi mX7_isKey 5 [zA 2] h (fun v h' => (if ¬ kdF B L q = -1 then 1 else 0) = v ∧ h = h') := by
  refine z_enter [zA 2] (by decide +kernel) (Nat.le_of_ble_eq_true rfl) rfl (fun hra hrg => ?_)
  refine z_al0 eX7_isKey_0 ?_
  refine z_ldcS eX7_isKey_1 sX7_52 ?_
  refine zc_vi1 eX7_isKey_3 lX7_54 tX9_at zs2 (by decide) (Nat.le_of_ble_eq_true rfl) (x_at _ B L hB q hq T 7 (by decide)) ?_
  rintro _ _ ⟨rfl, rfl⟩ -
  refine z_ine eX7_isKey_6 rfl (fun c6 => ?_) (fun c6 => ?_)
  · have z6 := iteT c6
    refine z_ki eX7_isKey_54 ?_
    refine z_goto eX7_isKey_55 rfl ?_
    refine ze_z eX7_isKey_59 rfl (by first | exact Or.inl rfl | exact Or.inr rfl) ?_
    refine ⟨if_pos (kdF_k (Or.inl z6)), rfl⟩
  · have z6 := iteF c6
    refine z_al0 eX7_isKey_9 ?_
    refine z_ldcS eX7_isKey_10 sX7_58 ?_
    refine zc_vi1 eX7_isKey_12 lX7_54 tX9_at zs2 (by decide) (Nat.le_of_ble_eq_true rfl) (x_at _ B L hB q hq T 8 (by decide)) ?_
    rintro _ _ ⟨rfl, rfl⟩ -
    refine z_ine eX7_isKey_15 rfl (fun c15 => ?_) (fun c15 => ?_)
    · have z15 := iteT c15
      refine z_ki eX7_isKey_54 ?_
      refine z_goto eX7_isKey_55 rfl ?_
      refine ze_z eX7_isKey_59 rfl (by first | exact Or.inl rfl | exact Or.inr rfl) ?_
      refine ⟨if_pos (kdF_k (Or.inr (Or.inl z15))), rfl⟩
    · have z15 := iteF c15
      refine z_al0 eX7_isKey_18 ?_
      refine z_ldcS eX7_isKey_19 sX7_59 ?_
      refine zc_vi1 eX7_isKey_21 lX7_54 tX9_at zs2 (by decide) (Nat.le_of_ble_eq_true rfl) (x_at _ B L hB q hq T 9 (by decide)) ?_
      rintro _ _ ⟨rfl, rfl⟩ -
      refine z_ine eX7_isKey_24 rfl (fun c24 => ?_) (fun c24 => ?_)
      · have z24 := iteT c24
        refine z_ki eX7_isKey_54 ?_
        refine z_goto eX7_isKey_55 rfl ?_
        refine ze_z eX7_isKey_59 rfl (by first | exact Or.inl rfl | exact Or.inr rfl) ?_
        refine ⟨if_pos (kdF_k (Or.inr (Or.inr (Or.inl z24)))), rfl⟩
      · have z24 := iteF c24
        refine z_al0 eX7_isKey_27 ?_
        refine z_ldcS eX7_isKey_28 sX7_61 ?_
        refine zc_vi1 eX7_isKey_30 lX7_54 tX9_at zs2 (by decide) (Nat.le_of_ble_eq_true rfl) (x_at _ B L hB q hq T 10 (by decide)) ?_
        rintro _ _ ⟨rfl, rfl⟩ -
        refine z_ine eX7_isKey_33 rfl (fun c33 => ?_) (fun c33 => ?_)
        · have z33 := iteT c33
          refine z_ki eX7_isKey_54 ?_
          refine z_goto eX7_isKey_55 rfl ?_
          refine ze_z eX7_isKey_59 rfl (by first | exact Or.inl rfl | exact Or.inr rfl) ?_
          refine ⟨if_pos (kdF_k (Or.inr (Or.inr (Or.inr (Or.inl z33))))), rfl⟩
        · have z33 := iteF c33
          refine z_al0 eX7_isKey_36 ?_
          refine z_ldcS eX7_isKey_37 sX7_63 ?_
          refine zc_vi1 eX7_isKey_39 lX7_54 tX9_at zs2 (by decide) (Nat.le_of_ble_eq_true rfl) (x_at _ B L hB q hq T 11 (by decide)) ?_
          rintro _ _ ⟨rfl, rfl⟩ -
          refine z_ine eX7_isKey_42 rfl (fun c42 => ?_) (fun c42 => ?_)
          · have z42 := iteT c42
            refine z_ki eX7_isKey_54 ?_
            refine z_goto eX7_isKey_55 rfl ?_
            refine ze_z eX7_isKey_59 rfl (by first | exact Or.inl rfl | exact Or.inr rfl) ?_
            refine ⟨if_pos (kdF_k (Or.inr (Or.inr (Or.inr (Or.inr (Or.inl z42)))))), rfl⟩
          · have z42 := iteF c42
            refine z_al0 eX7_isKey_45 ?_
            refine z_ldcS eX7_isKey_46 sX7_65 ?_
            refine zc_vi1 eX7_isKey_48 lX7_54 tX9_at zs2 (by decide) (Nat.le_of_ble_eq_true rfl) (x_at _ B L hB q hq T 12 (by decide)) ?_
            rintro _ _ ⟨rfl, rfl⟩ -
            refine z_ieq eX7_isKey_51 rfl (fun c51 => ?_) (fun c51 => ?_)
            · have z51 := iteF c51
              refine z_ki eX7_isKey_58 ?_
              refine ze_z eX7_isKey_59 rfl (by first | exact Or.inl rfl | exact Or.inr rfl) ?_
              refine ⟨if_neg (fun z => z ?_), rfl⟩
              unfold kdF
              rw [if_neg z6, if_neg z15, if_neg z24, if_neg z33, if_neg z42, if_neg z51]
            · have z51 := iteT c51
              refine z_ki eX7_isKey_54 ?_
              refine z_goto eX7_isKey_55 rfl ?_
              refine ze_z eX7_isKey_59 rfl (by first | exact Or.inl rfl | exact Or.inr rfl) ?_
              refine ⟨if_pos (kdF_k (Or.inr (Or.inr (Or.inr (Or.inr (Or.inr (z51))))))), rfl⟩
theorem x_ru_l (h0 : zHp) (B : Nat → Int) (L : Nat) (W : Nat → Int) (ht : Int) : ∀ (f c q : Nat) (D : Nat → Int) (h : zHp), c + f = 5 → c ≤ 4 → xTs 28 31 h0 B L h → h 2 3 = (q : Int) → q ≤ L → rI h D c → zRW mX7_readFrom 6 (0, 0) 7 [zA 28, zA 2, zI c] [] 143 h (zqi (fun v h' => xRu h0 (ruF B L W ht f c q D) v h')) := by
  intro f
  induction f with
  | zero => intro c q D h hf; omega
  | succ f ih =>
    intro c q D h hf hc S e3 hq I
    have kb := tk_b (B := B) hq
    refine z_il2 eX7_readFrom_7 ?_
    refine z_ki eX7_readFrom_8 ?_
    refine z_cgt eX7_readFrom_9 rfl (fun c9 => ?_) (fun c9 => ?_)
    · omega
    · refine z_al1 eX7_readFrom_12 ?_
      refine zc_vv0 eX7_readFrom_13 lX7_31 tX9_advance zs2 (by decide) (Nat.le_of_ble_eq_true rfl) (x_adv h B L S.2.1 q hq e3) ?_
      rintro g1 ⟨F1, T1⟩
      have S1 := S.fr F1
      have I1 := I.fr F1
      refine z_al1 eX7_readFrom_16 ?_
      refine zc_vi0 eX7_readFrom_17 lX7_36 tX9_atEnd zs2 (by decide) (Nat.le_of_ble_eq_true rfl) (x_atEnd _ B L q T1) ?_
      rintro _ _ ⟨rfl, rfl⟩ -
      refine z_ieq eX7_readFrom_20 rfl (fun c20 => ?_) (fun c20 => ?_)
      · have z20 := iteF c20
        refine z_al1 eX7_readFrom_25 ?_
        refine zc_si1 eX7_readFrom_26 lX7_40 tX7_isKey (by decide) (Nat.le_of_ble_eq_true rfl) (x_isKey _ B L S1.2.1 q hq T1) ?_
        rintro _ _ ⟨rfl, rfl⟩ -
        refine z_ine eX7_readFrom_29 rfl (fun c29 => ?_) (fun c29 => ?_)
        · have z29 := iteT c29
          refine z_il2 eX7_readFrom_38 ?_
          refine z_ki eX7_readFrom_39 ?_
          refine z_clt eX7_readFrom_40 rfl (fun c40 => ?_) (fun c40 => ?_)
          · have eH : ruF B L W ht (f + 1) c q D = bnd (clF B L c q D W ht) (fun s => ruF B L W ht f (c + 1) s.1 s.2.1) := by rw [ruF, if_neg z20, if_neg z29, if_neg (by omega)]
            have eC : clF B L c q D W ht = bnd (clF0 B L c q D W ht) (adF W ht) := rfl
            rw [eH, eC]
            refine z_al0 eX7_readFrom_50 ?_
            refine z_al1 eX7_readFrom_51 ?_
            refine z_il2 eX7_readFrom_52 ?_
            refine zc_vi2 eX7_readFrom_53 lX7_48 tX7_readClause zs28 (by decide) (Nat.le_of_ble_eq_true rfl) (x_readClause h0 g1 B L q c D W ht (by omega) S1 T1 hq z29) ?_
            rintro v1 g2 R1 -
            refine z_ine eX7_readFrom_56 rfl (fun c56 => ?_) (fun c56 => ?_)
            · generalize clF0 B L c q D W ht = R at R1 ⊢
              obtain ⟨s, rfl⟩ : ∃ s, R = .inr s := by
                rcases R with e | s
                · exact absurd R1.1.symm c56
                · exact ⟨s, rfl⟩
              obtain ⟨-, y2, y3, y4, y5, y6, y7, y8, y9⟩ := R1
              have e28 : g2 28 0 = (c : Int) := by rw [y6.1 28 (by decide) (by decide) (by decide) (by decide)]; exact I1.1
              refine z_al0 eX7_readFrom_61 ?_
              refine z_dup eX7_readFrom_62 zn2 ?_
              refine z_gi eX7_readFrom_63 fX7_9 zs28 ?_
              rw [e28]
              refine z_ki eX7_readFrom_66 ?_
              refine z_iaddN eX7_readFrom_67 (by omega) (by omega) ?_
              refine z_pi eX7_readFrom_68 pX7_9 zs28 ?_
              refine z_incN2 eX7_readFrom_71 zn2 (by omega) (by omega) ?_
              refine z_goto eX7_readFrom_74 rfl ?_
              have e24 : s.2.1 240 = (c : Int) := by rw [y8 240 (by unfold inC; omega)]; exact I.2.1
              refine ih (c + 1) s.1 (up s.2.1 240 (s.2.1 240 + 1)) _ (by omega) (by omega) (y5.up (c := 28) (by decide) (by decide) _ _) (by rw [zup_off (by decide)]; exact y4) y3 ⟨by rw [zup_at]; omega, by rw [up_at]; omega, fun k hk => ?_⟩
              rw [up_ne (by omega)]
              have uD : ∀ j : Nat, (j = 241 + k ∨ j = 245 + k ∨ j = 249 + k ∨ (253 + 8 * k ≤ j ∧ j < 253 + 8 * k + 8)) → up s.2.1 240 (s.2.1 240 + 1) j = s.2.1 j := fun j hj => up_ne (by omega)
              by_cases z : k = c
              · subst z
                exact ⟨y7.cg y9 (by rw [zup_off (by decide)]) (by rw [zup_off (by decide)]) (fun i hi => by rw [zup_off (by decide)]) uD, y9⟩
              · have q2 := I1.2.2 k (by omega)
                have uE : ∀ j : Nat, (j = 241 + k ∨ j = 245 + k ∨ j = 249 + k ∨ (253 + 8 * k ≤ j ∧ j < 253 + 8 * k + 8)) → s.2.1 j = D j := fun j hj => y8 j (by unfold inC; omega)
                refine ⟨q2.1.cg q2.2 ?_ ?_ (fun i hi => ?_) (fun j hj => (uD j hj).trans (uE j hj)), by rw [uE (249 + k) (by omega)]; exact q2.2⟩
                · rw [zup_off (by decide)]; exact (y6.2.1 k z).1
                · rw [zup_off (by decide)]; exact (y6.2.1 k z).2
                · rw [zup_off (by decide)]; exact y6.2.2 _ (by omega)
            · refine z_ki eX7_readFrom_59 ?_
              refine ze_z eX7_readFrom_60 rfl (by first | exact Or.inl rfl | exact Or.inr rfl) ?_
              generalize clF0 B L c q D W ht = R at R1 ⊢
              rcases R with e | s
              · exact ⟨rfl, R1.2⟩
              · exact absurd (R1.1.trans c56) (by decide)
          · refine z_al1 eX7_readFrom_43 ?_
            refine z_ki eX7_readFrom_44 ?_
            refine zc_vi1 eX7_readFrom_46 lX7_44 tX9_refuse zs2 (by decide) (Nat.le_of_ble_eq_true rfl) (x_ref T1 _) ?_
            rintro _ _ ⟨rfl, rfl⟩ -
            refine ze_z eX7_readFrom_49 rfl (by first | exact Or.inl rfl | exact Or.inr rfl) ?_
            have eH : ruF B L W ht (f + 1) c q D = .inl (6, tkA B L q) := by rw [ruF, if_neg z20, if_neg z29, if_pos (by omega)]
            have ef := fK_1 (k := tkK B L q) (n := 6) (by have := kdF_b.2.2 z29; omega)
            rw [eH, ef]
            exact ⟨rfl, S1.bad _ _⟩
        · have z29 := iteF c29
          refine z_al1 eX7_readFrom_32 ?_
          refine z_ki eX7_readFrom_33 ?_
          refine zc_vi1 eX7_readFrom_34 lX7_44 tX9_refuse zs2 (by decide) (Nat.le_of_ble_eq_true rfl) (x_ref T1 _) ?_
          rintro _ _ ⟨rfl, rfl⟩ -
          refine ze_z eX7_readFrom_37 rfl (by first | exact Or.inl rfl | exact Or.inr rfl) ?_
          have eH : ruF B L W ht (f + 1) c q D = .inl (fK (tkK B L q) 2, tkA B L q) := by rw [ruF, if_neg z20, if_pos (Classical.not_not.1 z29)]
          rw [eH]
          exact ⟨rfl, S1.bad _ _⟩
      · have z20 := iteT c20
        refine z_ki eX7_readFrom_23 ?_
        refine ze_z eX7_readFrom_24 rfl (by first | exact Or.inl rfl | exact Or.inr rfl) ?_
        have eH : ruF B L W ht (f + 1) c q D = .inr (q, D, W, ht) := by rw [ruF, if_pos z20]
        rw [eH]
        exact ⟨rfl, S1.1, S1.2.2.1, S1.2.2.2, c, hc, I1⟩
theorem x_ruFrom (h0 h : zHp) (B : Nat → Int) (L : Nat) (D W : Nat → Int) (ht : Int) (S : xTs 28 31 h0 B L h) (e3 : h 2 3 = 0) (hD : D 240 = 0) : zCi mX7_readFrom 6 [zA 28, zA 2] h (fun v h' => xRu h0 (ruF B L W ht 5 0 0 D) v h') := by
  refine z_enter [zA 28, zA 2, zU] (by decide +kernel) (Nat.le_of_ble_eq_true rfl) rfl (fun hra hrg => ?_)
  refine z_al0 eX7_readFrom_0 ?_
  refine z_ki eX7_readFrom_1 ?_
  refine z_pi eX7_readFrom_2 pX7_9 zs28 ?_
  refine z_ki eX7_readFrom_5 ?_
  refine z_is2 eX7_readFrom_6 zn2 ?_
  exact x_ru_l h0 B L W ht 5 0 0 D _ (by omega) (by omega) (S.up (c := 28) (by decide) (by decide) _ _) (by rw [zup_off (by decide)]; exact e3) (Nat.zero_le _) ⟨by rw [zup_at]; rfl, hD, fun k hk => by omega⟩
/-- what the class's rule comes to -/
def xRp (g : zHp) (R : Rh) (v : Int) (h : zHp) : Prop := match R with
  | .inl e => (-1 : Int) = v ∧ ∃ f, xXs 28 31 g e.1 e.2 f ∧ zup (zup f 2 1 0) 0 0 10 = h
  | .inr s => s.2.1 240 = v ∧ ∃ f f2, xHf 28 31 g f ∧ f 2 8 = 0 ∧ f 2 9 = -1 ∧ (∃ c : Nat, c ≤ 4 ∧ rI f s.2.1 c) ∧ cpR (zup f 2 1 0) 24 28 f2 ∧ zup f2 0 0 0 = h
theorem x_ruleN (h : zHp) (n : Int) (hc : n < 0 ∨ h 2 1 < n ∨ 200 < n) : zCi mX11_rule 7 [zA 0, zI n] h (fun v h' => pX0 h (-1, 5) v h') := by
  refine z_enter [zA 0, zI n, zU] (by decide +kernel) (Nat.le_of_ble_eq_true rfl) rfl (fun hra hrg => ?_)
  refine z_al0 eX11_rule_0 ?_
  refine z_ga eX11_rule_1 fX11_18 zs0 (t := 2) rfl ?_
  refine z_il1 eX11_rule_4 ?_
  refine z_ki eX11_rule_5 ?_
  refine zc_vi2 eX11_rule_8 lX11_188 tX9_open zs2 (by decide) (Nat.le_of_ble_eq_true rfl) (x_openN _ _ _ hc) ?_
  rintro _ _ ⟨rfl, rfl⟩ -
  refine z_ine eX11_rule_11 rfl (fun c11 => ?_) (fun c11 => ?_)
  · exact absurd rfl c11
  · refine z_al0 eX11_rule_14 ?_
    refine z_ki eX11_rule_15 ?_
    refine zc_vi1 eX11_rule_16 lX11_153 tX11_fail zs0 (by decide) (Nat.le_of_ble_eq_true rfl) (x_fail _ _) ?_
    rintro _ _ ⟨rfl, rfl⟩ -
    refine ze_i eX11_rule_19 rfl ?_
    exact pX0_f zXf.rf rfl
theorem x_ruleY (h : zHp) (B : Nat → Int) (L : Nat) (hL : (L : Int) ≤ h 2 1) (h200 : L ≤ 200) (hBy : ∀ i : Nat, i < L → h 3 i = B i ∧ -128 ≤ B i ∧ B i ≤ 127) (D W : Nat → Int) (ht : Int) (hD : D 240 = 0) : zCi mX11_rule 7 [zA 0, zI L] h (fun v h' => xRp (xOp h L) (ruF B L W ht 5 0 0 D) v h') := by
  refine z_enter [zA 0, zI L, zU] (by decide +kernel) (Nat.le_of_ble_eq_true rfl) rfl (fun hra hrg => ?_)
  have S := xOp_S (lo := 28) (hi := 31) (show L ≤ 700 by omega) hBy
  refine z_al0 eX11_rule_0 ?_
  refine z_ga eX11_rule_1 fX11_18 zs0 (t := 2) rfl ?_
  refine z_il1 eX11_rule_4 ?_
  refine z_ki eX11_rule_5 ?_
  refine zc_vi2 eX11_rule_8 lX11_188 tX9_open zs2 (by decide) (Nat.le_of_ble_eq_true rfl) (x_openY _ _ _ (by omega)) ?_
  rintro _ _ ⟨rfl, rfl⟩ -
  refine z_ine eX11_rule_11 rfl (fun c11 => ?_) (fun c11 => ?_)
  · refine z_al0 eX11_rule_20 ?_
    refine z_ga eX11_rule_21 fX11_39 zs0 (t := 28) rfl ?_
    refine z_al0 eX11_rule_24 ?_
    refine z_ga eX11_rule_25 fX11_18 zs0 (t := 2) rfl ?_
    refine zc_vi1 eX11_rule_28 lX11_205 tX7_readFrom zs28 (by decide) (Nat.le_of_ble_eq_true rfl) (x_ruFrom _ _ B L D W ht S.1 S.2 hD) ?_
    rintro v1 g1 R1 -
    refine z_is2 eX11_rule_31 zn0 ?_
    refine z_al0 eX11_rule_32 ?_
    refine z_ga eX11_rule_33 fX11_18 zs0 (t := 2) rfl ?_
    refine zc_vv0 eX11_rule_36 lX11_195 tX9_empty zs2 (by decide) (Nat.le_of_ble_eq_true rfl) (x_empty _) ?_
    rintro _ rfl
    refine z_il2 eX11_rule_39 ?_
    refine z_ine eX11_rule_40 rfl (fun c40 => ?_) (fun c40 => ?_)
    · generalize ruF B L W ht 5 0 0 D = R at R1 ⊢
      obtain ⟨s, rfl⟩ : ∃ s, R = .inr s := by
        rcases R with e | s
        · exact absurd R1.1.symm c40
        · exact ⟨s, rfl⟩
      obtain ⟨-, r2, r3, r4, r5⟩ := R1
      obtain ⟨cc, hcc, hrI⟩ := id r5
      refine z_al0 eX11_rule_50 ?_
      refine z_ga eX11_rule_51 fX11_35 zs0 (t := 24) rfl ?_
      refine z_al0 eX11_rule_54 ?_
      refine z_ga eX11_rule_55 fX11_39 zs0 (t := 28) rfl ?_
      refine zc_vv1 eX11_rule_58 lX11_206 tX7_copyFrom zs24 (by decide) (Nat.le_of_ble_eq_true rfl) (x_copyRule _ 24 28 (Or.inl rfl) (Or.inr (Or.inl rfl)) (by omega)) ?_
      rintro g2 C1
      refine z_al0 eX11_rule_61 ?_
      refine z_al0 eX11_rule_62 ?_
      refine z_ga eX11_rule_63 fX11_35 zs0 (t := 24) rfl ?_
      refine z_gi eX11_rule_66 fX11_209 zs24 ?_
      rw [show g2 24 0 = s.2.1 240 from by rw [C1.2.1, zup_off (by decide), hrI.1, hrI.2.1]]
      refine zc_vi1 eX11_rule_69 lX11_202 tX11_answer zs0 (by decide) (Nat.le_of_ble_eq_true rfl) (x_answer _ _) ?_
      rintro _ _ ⟨rfl, rfl⟩ -
      refine ze_i eX11_rule_72 rfl ?_
      exact ⟨rfl, g1, g2, r2, r3, r4, r5, C1, rfl⟩
    · generalize ruF B L W ht 5 0 0 D = R at R1 ⊢
      obtain ⟨e, rfl⟩ : ∃ e, R = .inl e := by
        rcases R with e | s
        · exact ⟨e, rfl⟩
        · exact absurd (R1.1.trans c40) (by decide)
      refine z_al0 eX11_rule_43 ?_
      refine z_ki eX11_rule_44 ?_
      refine zc_vi1 eX11_rule_46 lX11_153 tX11_fail zs0 (by decide) (Nat.le_of_ble_eq_true rfl) (x_fail _ _) ?_
      rintro _ _ ⟨rfl, rfl⟩ -
      refine ze_i eX11_rule_49 rfl ?_
      exact ⟨rfl, g1, R1.2, rfl⟩
  · exact absurd c11 (by decide)
theorem xRp_hi {g h : zHp} {R : Rh} {v : Int} (H : xRp g R v h) : ∀ c : Nat, ¬ (24 ≤ c ∧ c ≤ 31) → 3 ≤ c → h c = g c := by
  intro c hc h3
  cases R with
  | inl e =>
    obtain ⟨-, f, X, e2⟩ := H
    rw [← e2, zup_off (by omega), zup_off (by omega)]
    exact X.1.1 c (by omega) (by omega)
  | inr s =>
    obtain ⟨-, f, f2, X, -, -, -, C, e2⟩ := H
    rw [← e2, zup_off (by omega), C.1 c (by omega), zup_off (by omega)]
    exact X.1 c (by omega) (by omega)

theorem dB_ru {D D2 : Nat → Int} (H : dB D) (e : ∀ j : Nat, j < 240 → D2 j = D j) (h1 : 0 ≤ D2 240 ∧ D2 240 ≤ 4) (h2 : ∀ c : Nat, c < 4 → 0 ≤ D2 (241 + c) ∧ D2 (241 + c) ≤ 5 ∧ 0 ≤ D2 (245 + c) ∧ D2 (245 + c) ≤ 99 ∧ 0 ≤ D2 (249 + c) ∧ D2 (249 + c) ≤ 8 ∧ ∀ i : Nat, i < 8 → 0 ≤ D2 (253 + 8 * c + i) ∧ D2 (253 + 8 * c + i) ≤ 99) : dB D2 := by
  have hN := nN_le H
  have hS := nS_le H
  have eN : nN D2 = nN D := by unfold nN; rw [e 0 (by omega)]
  have eS : nS D2 = nS D := by unfold nS; rw [e 1 (by omega)]
  obtain ⟨a1, a2, a3, a4, a5, a6, -, -⟩ := H
  refine ⟨by rw [e 0 (by omega)]; exact a1, by rw [e 1 (by omega)]; exact a2, by rw [e 2 (by omega)]; exact a3, fun s k hs hk => ?_, fun s hs => ?_, fun k hk => ?_, h1, h2⟩
  · rw [eS] at hs
    rw [eN] at hk
    rw [e _ (by omega), e 0 (by omega)]
    exact a4 s k hs hk
  · rw [eS] at hs
    rw [e _ (by omega), e _ (by omega), e _ (by omega)]
    exact a5 s hs
  · rw [eN] at hk
    rw [e _ (by omega), e _ (by omega), e 0 (by omega)]
    exact a6 k hk
theorem hallR_ru {h g : zHp} {a : Nat} {D D2 W W2 : Nat → Int} (H : hallR h a D W) (hb2 : dB D2) (eh : ∀ b : Nat, a ≤ b → b ≤ a + 9 → g b = h b) (e : ∀ j : Nat, j < 240 → D2 j = D j) (eW : ∀ k : Nat, k < 8 → W2 k = W k) : hallR g a D2 W2 := by
  obtain ⟨hb, h2, h3, h4, h5, h6, h7, h8, h9⟩ := H
  have hN := nN_le hb
  have hN2 := nN_eq hb
  have hS := nS_le hb
  have eN : nN D2 = nN D := by unfold nN; rw [e 0 (by omega)]
  have eS : nS D2 = nS D := by unfold nS; rw [e 1 (by omega)]
  have ep : pX g a = pX h a := by unfold pX; rw [eh (a + 9) (by omega) (by omega)]
  have eo : ∀ s k : Nat, s < 20 → k < 8 → oD D2 s k = oD D s k := fun s k hs hk => by unfold oD; rw [e _ (by omega)]
  refine ⟨hb2, by rw [eN, e 2 (by omega)]; exact h2, by rw [eh a (by omega) (by omega), e 0 (by omega)]; exact h3, by rw [eh a (by omega) (by omega), e 2 (by omega)]; exact h4, by rw [eh a (by omega) (by omega), e 1 (by omega)]; exact h5, fun k hk => ?_, fun s hs => ?_, fun s k hs hk => ?_, ?_⟩
  · rw [eN] at hk
    have q := h6 k hk
    rw [eh (a + 1) (by omega) (by omega), eh (a + 2) (by omega) (by omega), eh (a + 3) (by omega) (by omega), eh (a + 4) (by omega) (by omega), eW k (by omega), e (3 + k) (by omega), e (11 + k) (by omega), e 0 (by omega), e (11 + (h (a + 3) k).toNat) (by omega)]
    exact q
  · rw [eS] at hs
    rw [eh (a + 5) (by omega) (by omega), eh (a + 6) (by omega) (by omega), eh (a + 7) (by omega) (by omega), e (20 + s) (by omega), e (40 + s) (by omega), e (60 + s) (by omega)]
    exact h7 s hs
  · rw [eS] at hs
    rw [eN] at hk
    rw [eh (a + 8) (by omega) (by omega), eh (a + 9) (by omega) (by omega), e _ (by omega)]
    exact h8 s k hs hk
  · rw [ep]
    intro s k hs hk
    rw [eS] at hs
    rw [eN] at hk
    have q := h9 s k hs hk
    rw [eN, eo s _ (by omega) (by omega), eo s k (by omega) (by omega)]
    exact q
theorem rel_rule {h h1 h2 : zHp} (H : Rel h) (hnB : nB h) {L : Nat} {v v' : Int} (hx : xRp (xOp h L) (ruF (h 3) L (nwW h) (h 117 70) 5 0 0 (nwR h)) v h1) (hm : ∃ g, opP (zup (zup h1 117 1 0) 117 0 0) (h 3) L g ∧ mRu g (h 3) L (ruF (h 3) L (nwW h1) (h1 117 70) 5 0 0 (nwR h1)) v' h2) : rOut h v v' h2 := by
  obtain ⟨g, O, hm⟩ := hm
  have hi : ∀ c : Nat, 32 ≤ c → h1 c = h c := fun c hc => (xRp_hi hx c (by omega) (by omega)).trans (xOp_c (by omega))
  have eD : nwR h1 = nwR h := by unfold nwR; rw [hi 122 (by omega)]
  have eW : nwW h1 = nwW h := by unfold nwW; rw [hi 123 (by omega)]
  rw [eD, eW, hi 117 (by omega)] at hm
  have og : ∀ c : Nat, ¬ c = 117 → g c = h1 c := fun c hc => by rw [O.1 c hc, zup_off hc, zup_off hc]
  have oi : ∀ i : Nat, ¬ i = 0 → ¬ i = 1 → ¬ i = 8 → ¬ i = 9 → ¬ (12 ≤ i ∧ i ≤ 19) → g 117 i = h1 117 i := fun i i0 i1 i2 i3 i4 => by rw [O.2.1 i i2 i3 i4, zup_ne (by omega), zup_ne (by omega)]
  have o0 : g 117 0 = 0 := by rw [O.2.1 0 (by decide) (by decide) (by decide), zup_at]
  have nB1 : nB h → nB g := fun z => nB_cg (fun j _ => by rw [og 122 (by decide), hi 122 (by omega)]) z
  generalize ruF (h 3) L (nwW h) (h 117 70) 5 0 0 (nwR h) = R at hx hm
  cases R with
  | inl e =>
    obtain ⟨rfl, f, X, e1⟩ := hx
    obtain ⟨rfl, g2, X2, e2⟩ := hm
    have h1c : ∀ c : Nat, ¬ c = 0 → ¬ c = 2 → ¬ (28 ≤ c ∧ c ≤ 31) → h1 c = h c := fun c c1 c2 c3 => by rw [← e1, zup_off c1, zup_off c2, X.1.1 c c2 c3, xOp_c c2]
    have h10 : ∀ i : Nat, ¬ i = 0 → h1 0 i = h 0 i := fun i hi => by rw [← e1, zup_ne (by omega), zup_off (by decide), X.1.1 0 (by decide) (by omega), xOp_c (by decide)]
    have h2c : ∀ c : Nat, ¬ c = 117 → ¬ c = 122 → ¬ c = 123 → h2 c = h1 c := fun c c1 c2 c3 => by rw [← e2, zup_off c1, zup_off c1, zup_off c1, X2.1.1 c c1 c2 c3, og c c1]
    have h2i : ∀ i : Nat, ¬ i = 0 → ¬ i = 1 → ¬ (8 ≤ i ∧ i ≤ 19) → ¬ i = 70 → h2 117 i = h1 117 i := fun i i0 i1 i2 i3 => by rw [← e2, zup_ne (by omega), zup_ne (by omega), zup_ne (by omega), X2.1.2.1 i (by omega) i3, oi i i0 i1 (by omega) (by omega) (by omega)]
    have h22 : ∀ i : Nat, i < 1200 → h2 122 i = h1 122 i := fun i hi => by rw [← e2, zup_off (by decide), zup_off (by decide), zup_off (by decide), X2.1.2.2.1 i hi, og 122 (by decide)]
    have h23 : ∀ i : Nat, i < 32 → h2 123 i = h1 123 i := fun i hi => by rw [← e2, zup_off (by decide), zup_off (by decide), zup_off (by decide), X2.1.2.2.2.2.1 i hi, og 123 (by decide)]
    have E := exP 28 31 (Or.inr (Or.inl ⟨rfl, rfl⟩)) h1c h10 (fun c c1 c2 c3 _ _ => h2c c c1 c2 c3) (fun i i0 i1 i2 i3 _ _ => h2i i i0 i1 i2 i3) h22 h23
    have s0 : h2 0 0 = 10 := by rw [h2c 0 (by decide) (by decide) (by decide), ← e1, zup_at]
    have s7 : h2 117 0 = 10 := by rw [← e2, zup_at]
    refine ⟨rfl, Rel.exL E (by rw [s0, s7]) H (by simp) (fun _ => ?_) (by simp) (by simp) (by simp) (by simp) (by simp) (by simp) (by simp), ?_, ?_, fun z => ?_⟩
    · have a8 : h2 117 8 = 0 := by rw [← e2, zup_ne (by decide), zup_ne (by decide), zup_ne (by decide), X2.1.2.1 8 (by decide) (by decide), O.2.2.1]
      have a10 : h2 117 10 = e.1 := by rw [← e2, zup_ne (by decide), zup_ne (by decide), zup_at]
      have a11 : h2 117 11 = (e.2 : Int) := by rw [← e2, zup_ne (by decide), zup_at]
      have b1 : h2 2 1 = 0 := by rw [h2c 2 (by decide) (by decide) (by decide), ← e1, zup_off (by decide), zup_at]
      have b8 : h2 2 8 = e.1 := by rw [h2c 2 (by decide) (by decide) (by decide), ← e1, zup_off (by decide), zup_ne (by decide)]; exact X.2.1
      have b9 : h2 2 9 = (e.2 : Int) := by rw [h2c 2 (by decide) (by decide) (by decide), ← e1, zup_off (by decide), zup_ne (by decide)]; exact X.2.2
      unfold rTape
      rw [a8, a10, a11, b1, b8, b9]
      exact ⟨rfl, by omega, by omega, fun i hi => by omega, rfl, rfl⟩
    · rw [h2c 200 (by decide) (by decide) (by decide), hi 200 (by decide)]
    · rw [h2c 201 (by decide) (by decide) (by decide), hi 201 (by decide)]
    · refine nB_cg (fun j hj => ?_) (X2.1.2.2.2.2.2 (nB1 z))
      rw [← e2, zup_off (by decide), zup_off (by decide), zup_off (by decide)]
  | inr s =>
    obtain ⟨rfl, f, f2, X, f8, f9, ⟨cc, hcc, I⟩, C, e1⟩ := hx
    obtain ⟨rfl, g2, M2, e2⟩ := hm
    have h1c : ∀ c : Nat, ¬ c = 0 → ¬ c = 2 → ¬ (28 ≤ c ∧ c ≤ 31) → ¬ (4 ≤ c ∧ c ≤ 13) → ¬ (24 ≤ c ∧ c ≤ 27) → h1 c = h c := fun c c1 c2 c3 _ c4 => by rw [← e1, zup_off c1, C.1 c (by omega), zup_off c2, X.1 c c2 c3, xOp_c c2]
    have h4c : ∀ c : Nat, 4 ≤ c ∧ c ≤ 13 → h1 c = h c := fun c hc => by rw [← e1, zup_off (by omega), C.1 c (by omega), zup_off (by omega), X.1 c (by omega) (by omega), xOp_c (by omega)]
    have h10 : ∀ i : Nat, ¬ i = 0 → h1 0 i = h 0 i := fun i hi => by rw [← e1, zup_ne (by omega), C.1 0 (by omega), zup_off (by decide), X.1 0 (by decide) (by omega), xOp_c (by decide)]
    have h2c : ∀ c : Nat, ¬ c = 117 → ¬ c = 122 → ¬ c = 123 → h2 c = h1 c := fun c c1 c2 c3 => by rw [← e2, zcp_off c2, zup_off c1, zup_off c1, M2.1.1 c c1 c2 c3, og c c1]
    have h27 : ∀ i : Nat, ¬ i = 10 → ¬ i = 11 → h2 117 i = g2 117 i := fun i i1 i2 => by rw [← e2, zcp_off (by decide), zup_ne (by omega), zup_ne (by omega)]
    have h2i : ∀ i : Nat, ¬ i = 0 → ¬ i = 1 → ¬ (8 ≤ i ∧ i ≤ 19) → ¬ i = 70 → h2 117 i = h1 117 i := fun i i0 i1 i2 i3 => by rw [h27 i (by omega) (by omega), M2.1.2.1 i (by omega) i3, oi i i0 i1 (by omega) (by omega) (by omega)]
    have g32 : ∀ i : Nat, i < 1200 → g2 122 i = h1 122 i := fun i hi => by rw [M2.1.2.2.1 i hi, og 122 (by decide)]
    have h22a : ∀ i : Nat, 240 ≤ i → i < 290 → h2 122 i = s.2.1 i := fun i i1 i2 => by
      rw [← e2, zcp_rd, if_pos ⟨rfl, by omega, by omega⟩, zup_off (by decide), zup_off (by decide), show 1440 + (i - 240) = 1200 + i by omega]
      exact M2.c i (by omega)
    have h22 : ∀ i : Nat, ¬ (240 ≤ i ∧ i < 290) → h2 122 i = g2 122 i := fun i hi => by rw [← e2, zcp_rd, if_neg (by omega), zup_off (by decide), zup_off (by decide)]
    have h23 : ∀ i : Nat, i < 32 → h2 123 i = h1 123 i := fun i i2 => by rw [← e2, zcp_off (by decide), zup_off (by decide), zup_off (by decide), M2.1.2.2.2.2.1 i i2, og 123 (by decide)]
    have E := exQ 28 31 (Or.inr (Or.inl ⟨rfl, rfl⟩)) h1c h10 (fun c c1 c2 c3 _ _ => h2c c c1 c2 c3) (fun i i0 i1 i2 i3 _ _ => h2i i i0 i1 i2 i3) (fun i i1 i2 => by rw [h22 i (by omega), g32 i i2]) (fun i _ i2 => h23 i i2)
    have s0 : h2 0 0 = 0 := by rw [h2c 0 (by decide) (by decide) (by decide), ← e1, zup_at]
    have s7 : h2 117 0 = 0 := by rw [h27 0 (by decide) (by decide), M2.1.2.1 0 (by decide) (by decide), o0]
    have HR0 := H.2.2.2.2.2.1
    have eru : ∀ j : Nat, j < 240 → h2 122 j = h 122 j := fun j j2 => by rw [h22 j (by omega), g32 j (by omega), hi 122 (by omega)]
    have hb0 := HR0.1.1
    have n2 := M2.1.2.2.2.2.2 (nB1 hnB)
    have hb2 : dB (h2 122) := dB_ru hb0 eru (by rw [h22a 240 (by omega) (by omega), I.2.1]; omega) (fun c hc => by
      have q := n2 c hc
      have w : ∀ j : Nat, 241 ≤ j → j < 285 → h2 122 j = g2 122 (1200 + j) := fun j j1 j2 => by rw [h22a j (by omega) (by omega), M2.c j (by omega)]
      rw [w _ (by omega) (by omega), w _ (by omega) (by omega), w _ (by omega) (by omega), show 1200 + (241 + c) = 1441 + c by omega, show 1200 + (245 + c) = 1445 + c by omega, show 1200 + (249 + c) = 1449 + c by omega]
      exact ⟨q.1, q.2.1, q.2.2.1, q.2.2.2.1, q.2.2.2.2.1, q.2.2.2.2.2.1, fun i hi => by rw [w _ (by omega) (by omega), show 1200 + (253 + 8 * c + i) = 1453 + 8 * c + i by omega]; exact q.2.2.2.2.2.2 i hi⟩)
    refine ⟨rfl, Rel.exL E (by rw [s0, s7]) H (by simp) (fun _ => ?_) (by simp) (by simp) (fun _ => ?_) (by simp) (by simp) (by simp) (by simp), ?_, ?_, fun z => ?_⟩
    · have a8 : h2 117 8 = 0 := by rw [h27 8 (by decide) (by decide), M2.1.2.1 8 (by decide) (by decide), O.2.2.1]
      have a10 : h2 117 10 = 0 := by rw [← e2, zcp_off (by decide), zup_ne (by decide), zup_at]
      have a11 : h2 117 11 = -1 := by rw [← e2, zcp_off (by decide), zup_at]
      have b2 : ∀ i : Nat, h2 2 i = zup f 2 1 0 2 i := fun i => by rw [h2c 2 (by decide) (by decide) (by decide), ← e1, zup_off (by decide), C.1 2 (by omega)]
      unfold rTape
      rw [a8, a10, a11, b2 1, b2 8, b2 9, zup_at, zup_ne (by decide), zup_ne (by decide), f8, f9]
      exact ⟨rfl, by omega, by omega, fun i hi => by omega, rfl, rfl⟩
    · refine ⟨hallR_ru HR0.1 hb2 (fun b b1 b2 => ?_) eru (fun k hk => ?_), ?_⟩
      · rw [h2c b (by omega) (by omega) (by omega), h4c b (by omega)]
      · rw [h23 k (by omega), hi 123 (by omega)]
      · have R28 : ruleR (zup f 2 1 0) 28 (h2 122) := by
          rw [ruleR_cl]
          refine ⟨by rw [zup_off (by decide), I.1, h22a 240 (by omega) (by omega), I.2.1], fun c hc => ?_⟩
          rw [h22a 240 (by omega) (by omega), I.2.1] at hc
          have q := I.2.2 c (by omega)
          exact q.1.cg q.2 (by rw [zup_off (by decide)]) (by rw [zup_off (by decide)]) (fun i _ => by rw [zup_off (by decide)]) (fun j hj => h22a j (by omega) (by omega))
        refine ruleR_cg2 hb2 ?_ (fun i hi => ?_) (fun i hi => ?_) (fun i hi => ?_) (fun j _ _ => rfl) R28
        · rw [h2c 24 (by decide) (by decide) (by decide), ← e1, zup_off (by decide), C.2.1]
        · rw [h2c 25 (by decide) (by decide) (by decide), ← e1, zup_off (by decide)]; exact C.2.2.1 i hi
        · rw [h2c 26 (by decide) (by decide) (by decide), ← e1, zup_off (by decide)]; exact C.2.2.2.1 i hi
        · rw [h2c 27 (by decide) (by decide) (by decide), ← e1, zup_off (by decide)]; exact C.2.2.2.2 i hi
    · rw [h2c 200 (by decide) (by decide) (by decide), hi 200 (by decide)]
    · rw [h2c 201 (by decide) (by decide) (by decide), hi 201 (by decide)]
    · exact nB_cg (fun j hj => h22 j (by omega)) n2

