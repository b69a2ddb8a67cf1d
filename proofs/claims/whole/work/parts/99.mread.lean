-- the reference's readers: faults, signs, numbers; what holds while a hall is read (written by wip/tools/specY5.py)
def up (D : Nat → Int) (i : Nat) (v : Int) : Nat → Int := fun j => if j = i then v else D j
theorem up_at {D : Nat → Int} {i : Nat} {v : Int} : up D i v i = v := if_pos rfl
theorem up_ne {D : Nat → Int} {i j : Nat} {v : Int} (h : ¬ j = i) : up D i v j = D j := if_neg h
def mBad (h : zHp) (k : Int) (a : Nat) : zHp := zup (zup h 117 12 k) 117 13 (a : Int)
theorem r_failM (h : zHp) (hb : h 117 12 = 0) (k : Int) (a : Nat) : zCv mX12_fail 0 [zA 117, zI k, zI a] h (fun h' => mBad h k a = h') := by
  refine z_enter [zA 117, zI k, zI a] (by decide +kernel) (Nat.le_of_ble_eq_true rfl) rfl (fun hra hrg => ?_)
  refine z_al0 eX12_fail_0 ?_
  refine z_gi eX12_fail_1 fX12_201 zs117 ?_
  refine z_ile eX12_fail_4 rfl (fun c4 => ?_) (fun c4 => ?_)
  · refine z_al0 eX12_fail_8 ?_
    refine z_il1 eX12_fail_9 ?_
    refine z_pi eX12_fail_10 pX12_201 zs117 ?_
    refine z_al0 eX12_fail_13 ?_
    refine z_il2 eX12_fail_14 ?_
    refine z_pi eX12_fail_15 pX12_204 zs117 ?_
    refine ze_v eX12_fail_18 rfl ?_
    first | omega | rfl
  · omega
theorem r_failB (h : zHp) (hb : 0 < h 117 12) (k a : Int) : zCv mX12_fail 0 [zA 117, zI k, zI a] h (fun h' => h = h') := by
  refine z_enter [zA 117, zI k, zI a] (by decide +kernel) (Nat.le_of_ble_eq_true rfl) rfl (fun hra hrg => ?_)
  refine z_al0 eX12_fail_0 ?_
  refine z_gi eX12_fail_1 fX12_201 zs117 ?_
  refine z_ile eX12_fail_4 rfl (fun c4 => ?_) (fun c4 => ?_)
  · omega
  · refine ze_v eX12_fail_7 rfl ?_
    rfl
theorem r_wrong (h : zHp) (B : Nat → Int) (L : Nat) (q : Nat) (T : mTk B L q h) (hb : h 117 12 = 0) : zCv mX12_wrong 1 [zA 117] h (fun h' => mBad h (fK (tkK B L q) 2) (tkA B L q) = h') := by
  refine z_enter [zA 117] (by decide +kernel) (Nat.le_of_ble_eq_true rfl) rfl (fun hra hrg => ?_)
  have t14 := T.1
  refine z_al0 eX12_wrong_0 ?_
  refine z_al0 eX12_wrong_1 ?_
  refine z_gi eX12_wrong_2 fX12_149 zs117 ?_
  refine z_ki eX12_wrong_5 ?_
  refine z_cne eX12_wrong_6 rfl (fun c6 => ?_) (fun c6 => ?_)
  · refine z_ki eX12_wrong_13 ?_
    refine z_al0 eX12_wrong_14 ?_
    refine z_gi eX12_wrong_15 fX12_143 zs117 ?_
    rw [T.2.1]
    refine zc_vv2 eX12_wrong_18 lX12_207 tX12_fail zs117 (by decide) (Nat.le_of_ble_eq_true rfl) (r_failM _ hb _ _) ?_
    rintro _ rfl
    refine ze_v eX12_wrong_21 rfl ?_
    have e : fK (tkK B L q) 2 = 2 := if_neg (by omega)
    rw [e]
  · refine z_ki eX12_wrong_9 ?_
    refine z_goto eX12_wrong_10 rfl ?_
    refine z_al0 eX12_wrong_14 ?_
    refine z_gi eX12_wrong_15 fX12_143 zs117 ?_
    rw [T.2.1]
    refine zc_vv2 eX12_wrong_18 lX12_207 tX12_fail zs117 (by decide) (Nat.le_of_ble_eq_true rfl) (r_failM _ hb _ _) ?_
    rintro _ rfl
    refine ze_v eX12_wrong_21 rfl ?_
    have e : fK (tkK B L q) 2 = 1 := if_pos (by omega)
    rw [e]
theorem r_must (h : zHp) (B : Nat → Int) (L : Nat) (hB : mB h B L) (q : Nat) (hq : q ≤ L) (T : mTk B L q h) (hb : h 117 12 = 0) (x : Int) (hx : x = 0 ∨ x = 1) (hk : x = 1 → ¬ tkK B L q = 4) : zCv mX12_must 2 [zA 117, zI x] h (fun h' => (x = 1 → mFr h h' ∧ mTk B L (tkE B L q) h') ∧ (x = 0 → mBad h (fK (tkK B L q) 2) (tkA B L q) = h')) := by
  refine z_enter [zA 117, zI x] (by decide +kernel) (Nat.le_of_ble_eq_true rfl) rfl (fun hra hrg => ?_)
  refine z_al0 eX12_must_0 ?_
  refine z_gi eX12_must_1 fX12_201 zs117 ?_
  refine z_ile eX12_must_4 rfl (fun c4 => ?_) (fun c4 => ?_)
  · refine z_il1 eX12_must_8 ?_
    refine z_ieq eX12_must_9 rfl (fun c9 => ?_) (fun c9 => ?_)
    · refine z_al0 eX12_must_19 ?_
      refine zc_vv0 eX12_must_20 lX12_214 tX12_wrong zs117 (by decide) (Nat.le_of_ble_eq_true rfl) (r_wrong _ B L q T hb) ?_
      rintro _ rfl
      refine ze_v eX12_must_23 rfl ?_
      exact ⟨fun z => by omega, fun _ => rfl⟩
    · refine z_al0 eX12_must_12 ?_
      have kb := tk_b (B := B) hq
      refine zc_vv0 eX12_must_13 lX12_211 tX12_next zs117 (by decide) (Nat.le_of_ble_eq_true rfl) (r_nx _ B L hB _ kb.2.2.1 (T.2.2.2.2 (hk (by omega)))) ?_
      rintro g ⟨F, T2⟩
      refine z_goto eX12_must_16 rfl ?_
      refine ze_v eX12_must_23 rfl ?_
      exact ⟨fun _ => ⟨F, T2⟩, fun z => by omega⟩
  · omega
theorem r_mustB (h : zHp) (hb : 0 < h 117 12) (x : Int) : zCv mX12_must 2 [zA 117, zI x] h (fun h' => h = h') := by
  refine z_enter [zA 117, zI x] (by decide +kernel) (Nat.le_of_ble_eq_true rfl) rfl (fun hra hrg => ?_)
  refine z_al0 eX12_must_0 ?_
  refine z_gi eX12_must_1 fX12_201 zs117 ?_
  refine z_ile eX12_must_4 rfl (fun c4 => ?_) (fun c4 => ?_)
  · omega
  · refine ze_v eX12_must_7 rfl ?_
    rfl
theorem r_count (h : zHp) (B : Nat → Int) (L : Nat) (hB : mB h B L) (q : Nat) (hq : q ≤ L) (T : mTk B L q h) (hb : h 117 12 = 0) (lo hi : Int) : zCi mX12_count 2 [zA 117, zI lo, zI hi] h (fun v h' => (nuK B L q lo hi = 0 → tkV B L q = v ∧ mFr h h' ∧ mTk B L (tkE B L q) h') ∧ (¬ nuK B L q lo hi = 0 → (0 : Int) = v ∧ mBad h (nuK B L q lo hi) (tkA B L q) = h')) := by
  refine z_enter [zA 117, zI lo, zI hi, zU] (by decide +kernel) (Nat.le_of_ble_eq_true rfl) rfl (fun hra hrg => ?_)
  have t14 := T.1
  have t15 := T.2.1
  have kb := tk_b (B := B) hq
  have fp := @fK_pos (tkK B L q) 2 (by omega)
  refine z_al0 eX12_count_0 ?_
  refine z_gi eX12_count_1 fX12_201 zs117 ?_
  refine z_ine eX12_count_4 rfl (fun c4 => ?_) (fun c4 => ?_)
  · exact absurd hb c4
  · refine z_al0 eX12_count_7 ?_
    refine z_gi eX12_count_8 fX12_149 zs117 ?_
    refine z_ki eX12_count_11 ?_
    refine z_ceq eX12_count_12 rfl (fun c12 => ?_) (fun c12 => ?_)
    · have t17 := T.2.2.2.1 (by omega)
      refine z_al0 eX12_count_19 ?_
      refine z_gi eX12_count_20 fX12_201 zs117 ?_
      refine z_ine eX12_count_23 rfl (fun c23 => ?_) (fun c23 => ?_)
      · exact absurd hb c23
      · refine z_al0 eX12_count_26 ?_
        refine z_gi eX12_count_27 fX12_168 zs117 ?_
        refine z_i2l eX12_count_30 ?_
        refine z_il1 eX12_count_31 ?_
        refine z_i2l eX12_count_32 ?_
        refine z_il2 eX12_count_33 ?_
        refine z_i2l eX12_count_34 ?_
        refine zc_si3 eX12_count_35 lX12_133 tX12_isIn (by decide) (Nat.le_of_ble_eq_true rfl) (r_isIn _ _ _ _) ?_
        rintro _ _ ⟨rfl, rfl⟩ -
        refine z_ine eX12_count_38 rfl (fun c38 => ?_) (fun c38 => ?_)
        · have z38 := iteT c38
          refine z_al0 eX12_count_50 ?_
          refine z_gi eX12_count_51 fX12_201 zs117 ?_
          refine z_ile eX12_count_54 rfl (fun c54 => ?_) (fun c54 => ?_)
          · refine z_al0 eX12_count_59 ?_
            refine z_gi eX12_count_60 fX12_168 zs117 ?_
            refine z_is3 eX12_count_63 zn0 ?_
            refine z_al0 eX12_count_64 ?_
            refine zc_vv0 eX12_count_65 lX12_211 tX12_next zs117 (by decide) (Nat.le_of_ble_eq_true rfl) (r_nx _ B L hB _ kb.2.2.1 (T.2.2.2.2 (by omega))) ?_
            rintro g ⟨F, T2⟩
            refine z_il3 eX12_count_68 ?_
            refine ze_i eX12_count_69 rfl ?_
            have e : nuK B L q lo hi = 0 := by unfold nuK; rw [if_pos (by omega), if_pos (by omega)]
            exact ⟨fun _ => ⟨by omega, F, T2⟩, fun z => absurd e z⟩
          · exfalso; omega
        · have z38 := iteF c38
          refine z_al0 eX12_count_41 ?_
          refine z_ki eX12_count_42 ?_
          refine z_al0 eX12_count_43 ?_
          refine z_gi eX12_count_44 fX12_143 zs117 ?_
          rw [t15]
          refine zc_vv2 eX12_count_47 lX12_207 tX12_fail zs117 (by decide) (Nat.le_of_ble_eq_true rfl) (r_failM _ hb _ _) ?_
          rintro _ rfl
          have e12 : mBad h 4 (tkA B L q) 117 12 = 4 := by unfold mBad; rw [zup_ne (by decide), zup_at]
          refine z_al0 eX12_count_50 ?_
          refine z_gi eX12_count_51 fX12_201 zs117 ?_
          refine z_ile eX12_count_54 rfl (fun c54 => ?_) (fun c54 => ?_)
          · exfalso; omega
          · refine z_ki eX12_count_57 ?_
            refine ze_i eX12_count_58 rfl ?_
            have e : nuK B L q lo hi = 4 := by unfold nuK; rw [if_pos (by omega), if_neg (by omega)]
            exact ⟨fun z => by omega, fun _ => ⟨rfl, by rw [e]⟩⟩
    · refine z_al0 eX12_count_15 ?_
      refine zc_vv0 eX12_count_16 lX12_214 tX12_wrong zs117 (by decide) (Nat.le_of_ble_eq_true rfl) (r_wrong _ B L q T hb) ?_
      rintro _ rfl
      have e12 : mBad h (fK (tkK B L q) 2) (tkA B L q) 117 12 = fK (tkK B L q) 2 := by unfold mBad; rw [zup_ne (by decide), zup_at]
      refine z_al0 eX12_count_19 ?_
      refine z_gi eX12_count_20 fX12_201 zs117 ?_
      refine z_ine eX12_count_23 rfl (fun c23 => ?_) (fun c23 => ?_)
      · refine z_al0 eX12_count_50 ?_
        refine z_gi eX12_count_51 fX12_201 zs117 ?_
        refine z_ile eX12_count_54 rfl (fun c54 => ?_) (fun c54 => ?_)
        · exfalso; omega
        · refine z_ki eX12_count_57 ?_
          refine ze_i eX12_count_58 rfl ?_
          have e : nuK B L q lo hi = fK (tkK B L q) 2 := by unfold nuK; rw [if_neg (by omega)]
          exact ⟨fun z => by omega, fun _ => ⟨rfl, by rw [e]⟩⟩
      · exfalso; omega
theorem r_countB (h : zHp) (hb : 0 < h 117 12) (lo hi : Int) : zCi mX12_count 2 [zA 117, zI lo, zI hi] h (fun v h' => (0 : Int) = v ∧ h = h') := by
  refine z_enter [zA 117, zI lo, zI hi, zU] (by decide +kernel) (Nat.le_of_ble_eq_true rfl) rfl (fun hra hrg => ?_)
  refine z_al0 eX12_count_0 ?_
  refine z_gi eX12_count_1 fX12_201 zs117 ?_
  refine z_ine eX12_count_4 rfl (fun c4 => ?_) (fun c4 => ?_)
  · refine z_al0 eX12_count_19 ?_
    refine z_gi eX12_count_20 fX12_201 zs117 ?_
    refine z_ine eX12_count_23 rfl (fun c23 => ?_) (fun c23 => ?_)
    · refine z_al0 eX12_count_50 ?_
      refine z_gi eX12_count_51 fX12_201 zs117 ?_
      refine z_ile eX12_count_54 rfl (fun c54 => ?_) (fun c54 => ?_)
      · omega
      · refine z_ki eX12_count_57 ?_
        refine ze_i eX12_count_58 rfl ?_
        exact ⟨rfl, rfl⟩
    · omega
  · omega
/-- what the reading of a hall leaves as it was, in the reference -/
def mHf (h g : zHp) : Prop := (∀ c : Nat, ¬ c = 117 → ¬ c = 122 → ¬ c = 123 → g c = h c) ∧ (∀ i : Nat, ¬ (12 ≤ i ∧ i ≤ 19) → ¬ i = 70 → g 117 i = h 117 i) ∧ (∀ i : Nat, i < 1200 → g 122 i = h 122 i) ∧ (∀ i : Nat, 1500 ≤ i → g 122 i = h 122 i) ∧ (∀ i : Nat, i < 32 → g 123 i = h 123 i) ∧ (nB h → nB g)
/-- the reference at the piece q, with the new block D, the new words W -/
def mQ (h0 : zHp) (B : Nat → Int) (L q : Nat) (D W : Nat → Int) (ht : Int) (h : zHp) : Prop := mHf h0 h ∧ mB h B L ∧ h 117 12 = 0 ∧ q ≤ L ∧ mTk B L q h ∧ (∀ j : Nat, j < 300 → h 122 (1200 + j) = D j) ∧ (∀ k : Nat, k < 8 → h 123 (32 + k) = W k) ∧ h 117 70 = ht
/-- the reference after a fault -/
def mXs (h0 : zHp) (k : Int) (a : Nat) (h : zHp) : Prop := mHf h0 h ∧ h 117 12 = k ∧ h 117 13 = (a : Int) ∧ 0 < k
theorem nB_up {g : zHp} {i : Nat} {v : Int} (H : nB g) (hv : (i < 241 ∨ 285 ≤ i ∨ (0 ≤ v ∧ v ≤ 5 ∧ i < 245) ∨ (0 ≤ v ∧ v ≤ 99 ∧ 245 ≤ i ∧ i < 249) ∨ (0 ≤ v ∧ v ≤ 8 ∧ 249 ≤ i ∧ i < 253) ∨ (0 ≤ v ∧ v ≤ 99 ∧ 253 ≤ i))) : nB (zup g 122 (1200 + i) v) := by
  have key : ∀ (j : Nat) (lo hi : Int), (lo ≤ g 122 j ∧ g 122 j ≤ hi) → (j = 1200 + i → lo ≤ v ∧ v ≤ hi) → lo ≤ zup g 122 (1200 + i) v 122 j ∧ zup g 122 (1200 + i) v 122 j ≤ hi := fun j lo hi h1 h2 => by
    by_cases e : j = 1200 + i
    · rw [zup_rd, if_pos ⟨rfl, e⟩]; exact h2 e
    · rw [zup_ne (by omega)]; exact h1
  intro c hc
  have q := H c hc
  have k1 := key (1441 + c) 0 5 ⟨q.1, q.2.1⟩ (fun e => by omega)
  have k2 := key (1445 + c) 0 99 ⟨q.2.2.1, q.2.2.2.1⟩ (fun e => by omega)
  have k3 := key (1449 + c) 0 8 ⟨q.2.2.2.2.1, q.2.2.2.2.2.1⟩ (fun e => by omega)
  exact ⟨k1.1, k1.2, k2.1, k2.2, k3.1, k3.2, fun j hj => key (1453 + 8 * c + j) 0 99 (q.2.2.2.2.2.2 j hj) (fun e => by omega)⟩
theorem mHf.fr {h g f : zHp} (H : mHf h g) (F : mFr g f) : mHf h f := ⟨fun c c1 c2 c3 => (F.1 c c1).trans (H.1 c c1 c2 c3), fun i i1 i2 => (F.2 i (by omega)).trans (H.2.1 i i1 i2), fun i hi => by rw [F.1 122 (by decide)]; exact H.2.2.1 i hi, fun i hi => by rw [F.1 122 (by decide)]; exact H.2.2.2.1 i hi, fun i hi => by rw [F.1 123 (by decide)]; exact H.2.2.2.2.1 i hi, fun z => nB_cg (fun j _ => by rw [F.1 122 (by decide)]) (H.2.2.2.2.2 z)⟩
theorem mHf.up7 {h g : zHp} (H : mHf h g) {i : Nat} (hi : (12 ≤ i ∧ i ≤ 19) ∨ i = 70) (v : Int) : mHf h (zup g 117 i v) := ⟨fun c c1 c2 c3 => by rw [zup_off c1]; exact H.1 c c1 c2 c3, fun j j1 j2 => by rw [zup_ne (by omega)]; exact H.2.1 j j1 j2, fun j hj => by rw [zup_off (by decide)]; exact H.2.2.1 j hj, fun j hj => by rw [zup_off (by decide)]; exact H.2.2.2.1 j hj, fun j hj => by rw [zup_off (by decide)]; exact H.2.2.2.2.1 j hj, fun z => nB_cg (fun j _ => by rw [zup_off (by decide)]) (H.2.2.2.2.2 z)⟩
theorem mHf.up2 {h g : zHp} (H : mHf h g) {i : Nat} (v : Int) (hi : i < 300 ∧ (i < 241 ∨ 285 ≤ i ∨ (0 ≤ v ∧ v ≤ 5 ∧ i < 245) ∨ (0 ≤ v ∧ v ≤ 99 ∧ 245 ≤ i ∧ i < 249) ∨ (0 ≤ v ∧ v ≤ 8 ∧ 249 ≤ i ∧ i < 253) ∨ (0 ≤ v ∧ v ≤ 99 ∧ 253 ≤ i))) : mHf h (zup g 122 (1200 + i) v) := ⟨fun c c1 c2 c3 => by rw [zup_off c2]; exact H.1 c c1 c2 c3, fun j j1 j2 => by rw [zup_off (by decide)]; exact H.2.1 j j1 j2, fun j hj => by rw [zup_ne (by omega)]; exact H.2.2.1 j hj, fun j hj => by rw [zup_ne (by omega)]; exact H.2.2.2.1 j hj, fun j hj => by rw [zup_off (by decide)]; exact H.2.2.2.2.1 j hj, fun z => nB_up (H.2.2.2.2.2 z) hi.2⟩
theorem mHf.up3 {h g : zHp} (H : mHf h g) {i : Nat} (v : Int) : mHf h (zup g 123 (32 + i) v) := ⟨fun c c1 c2 c3 => by rw [zup_off c3]; exact H.1 c c1 c2 c3, fun j j1 j2 => by rw [zup_off (by decide)]; exact H.2.1 j j1 j2, fun j hj => by rw [zup_off (by decide)]; exact H.2.2.1 j hj, fun j hj => by rw [zup_off (by decide)]; exact H.2.2.2.1 j hj, fun j hj => by rw [zup_ne (by omega)]; exact H.2.2.2.2.1 j hj, fun z => nB_cg (fun j _ => by rw [zup_off (by decide)]) (H.2.2.2.2.2 z)⟩
theorem mTk.cg {B : Nat → Int} {L q : Nat} {h g : zHp} (e : ∀ i : Nat, 14 ≤ i ∧ i ≤ 19 → g 117 i = h 117 i) (T : mTk B L q h) : mTk B L q g := by
  unfold mTk at T ⊢
  rw [e 14 (by omega), e 15 (by omega), e 16 (by omega), e 17 (by omega), e 18 (by omega), e 19 (by omega)]
  exact T
theorem mB.cg {h g : zHp} {B : Nat → Int} {L : Nat} (H : mB h B L) (e1 : g 117 9 = h 117 9) (e2 : g 121 = h 121) : mB g B L := ⟨e1.trans H.1, H.2.1, fun i hi => by rw [e2]; exact H.2.2 i hi⟩
section
variable {h0 : zHp} {B : Nat → Int} {L q : Nat} {D W : Nat → Int} {ht : Int} {h g : zHp}
theorem mQ.fr {q2 : Nat} (M : mQ h0 B L q D W ht h) (F : mFr h g) (T : mTk B L q2 g) (hq : q2 ≤ L) : mQ h0 B L q2 D W ht g := ⟨M.1.fr F, M.2.1.fr F, (F.2 12 (by decide)).trans M.2.2.1, hq, T, fun j hj => by rw [F.1 122 (by decide)]; exact M.2.2.2.2.2.1 j hj, fun j hj => by rw [F.1 123 (by decide)]; exact M.2.2.2.2.2.2.1 j hj, (F.2 70 (by decide)).trans M.2.2.2.2.2.2.2⟩
theorem mQ.up2 (M : mQ h0 B L q D W ht h) {i : Nat} (v : Int) (hi : i < 300 ∧ (i < 241 ∨ 285 ≤ i ∨ (0 ≤ v ∧ v ≤ 5 ∧ i < 245) ∨ (0 ≤ v ∧ v ≤ 99 ∧ 245 ≤ i ∧ i < 249) ∨ (0 ≤ v ∧ v ≤ 8 ∧ 249 ≤ i ∧ i < 253) ∨ (0 ≤ v ∧ v ≤ 99 ∧ 253 ≤ i))) : mQ h0 B L q (up D i v) W ht (zup h 122 (1200 + i) v) := ⟨M.1.up2 v hi, M.2.1.cg (by rw [zup_off (by decide)]) (by rw [zup_off (by decide)]), by rw [zup_off (by decide)]; exact M.2.2.1, M.2.2.2.1, M.2.2.2.2.1.cg (fun i _ => by rw [zup_off (by decide)]), fun j hj => by
  rw [zup_rd]
  unfold up
  by_cases e : j = i
  · rw [if_pos ⟨rfl, by omega⟩, if_pos e]
  · rw [if_neg (by omega), if_neg e]; exact M.2.2.2.2.2.1 j hj, fun j hj => by rw [zup_off (by decide)]; exact M.2.2.2.2.2.2.1 j hj, by rw [zup_off (by decide)]; exact M.2.2.2.2.2.2.2⟩
theorem mQ.up3 (M : mQ h0 B L q D W ht h) {i : Nat} (v : Int) : mQ h0 B L q D (up W i v) ht (zup h 123 (32 + i) v) := ⟨M.1.up3 v, M.2.1.cg (by rw [zup_off (by decide)]) (by rw [zup_off (by decide)]), by rw [zup_off (by decide)]; exact M.2.2.1, M.2.2.2.1, M.2.2.2.2.1.cg (fun i _ => by rw [zup_off (by decide)]), fun j hj => by rw [zup_off (by decide)]; exact M.2.2.2.2.2.1 j hj, fun j hj => by
  rw [zup_rd]
  unfold up
  by_cases e : j = i
  · rw [if_pos ⟨rfl, by omega⟩, if_pos e]
  · rw [if_neg (by omega), if_neg e]; exact M.2.2.2.2.2.2.1 j hj, by rw [zup_off (by decide)]; exact M.2.2.2.2.2.2.2⟩
theorem mQ.up70 (M : mQ h0 B L q D W ht h) (v : Int) : mQ h0 B L q D W v (zup h 117 70 v) := ⟨M.1.up7 (Or.inr rfl) v, M.2.1.cg (by rw [zup_ne (by decide)]) (by rw [zup_off (by decide)]), by rw [zup_ne (by decide)]; exact M.2.2.1, M.2.2.2.1, M.2.2.2.2.1.cg (fun i hi => by rw [zup_ne (by omega)]), fun j hj => by rw [zup_off (by decide)]; exact M.2.2.2.2.2.1 j hj, fun j hj => by rw [zup_off (by decide)]; exact M.2.2.2.2.2.2.1 j hj, zup_at _ _ _ _⟩
theorem mQ.bad (M : mQ h0 B L q D W ht h) {k : Int} (hk : 0 < k) (a : Nat) : mXs h0 k a (mBad h k a) := ⟨(M.1.up7 (Or.inl (by decide)) k).up7 (Or.inl (by decide)) _, by unfold mBad; rw [zup_ne (by decide), zup_at], by unfold mBad; rw [zup_at], hk⟩
theorem mXs.up2 {k : Int} {a : Nat} (M : mXs h0 k a h) {i : Nat} (v : Int) (hi : i < 300 ∧ (i < 241 ∨ 285 ≤ i ∨ (0 ≤ v ∧ v ≤ 5 ∧ i < 245) ∨ (0 ≤ v ∧ v ≤ 99 ∧ 245 ≤ i ∧ i < 249) ∨ (0 ≤ v ∧ v ≤ 8 ∧ 249 ≤ i ∧ i < 253) ∨ (0 ≤ v ∧ v ≤ 99 ∧ 253 ≤ i))) : mXs h0 k a (zup h 122 (1200 + i) v) := ⟨M.1.up2 v hi, by rw [zup_off (by decide)]; exact M.2.1, by rw [zup_off (by decide)]; exact M.2.2.1, M.2.2.2⟩
end
