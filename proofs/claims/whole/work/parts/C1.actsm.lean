-- the reference reads acts (written by wip/tools/specK1b.py)
def mAf (h g : zHp) : Prop := (∀ c : Nat, ¬ c = 117 → ¬ (130 ≤ c ∧ c ≤ 133) → ¬ c = 135 → g c = h c) ∧ (∀ i : Nat, ¬ (12 ≤ i ∧ i ≤ 19) → ¬ i = 27 → ¬ i = 34 → g 117 i = h 117 i)
def mAr (h A : zHp) : Prop := h 130 = A 126 ∧ h 131 = A 127 ∧ h 132 = A 128 ∧ h 133 = A 129 ∧ h 135 = A 134
/-- the reference at the piece q of a text of acts, with s steps read -/
def mA (h0 : zHp) (B : Nat → Int) (L q s : Nat) (sp : Int) (A h : zHp) : Prop := mAf h0 h ∧ mB h B L ∧ h 117 12 = 0 ∧ q ≤ L ∧ mTk B L q h ∧ (h 117 27 = (s : Int) ∧ h 117 34 = sp) ∧ mAr h A
def mAx (h0 : zHp) (k : Int) (a : Nat) (h : zHp) : Prop := mAf h0 h ∧ h 117 12 = k ∧ h 117 13 = (a : Int) ∧ 0 < k
theorem zup_row {h A : zHp} {a b : Nat} (e : h a = A b) (j : Nat) (v : Int) : zup h a j v a = zup A b j v b := by
  funext i
  rw [zup_rd, zup_rd, e]
  by_cases z : i = j
  · rw [if_pos ⟨rfl, z⟩, if_pos ⟨rfl, z⟩]
  · rw [if_neg (fun y => z y.2), if_neg (fun y => z y.2)]
section
variable {h0 h g : zHp} {B : Nat → Int} {L q s : Nat} {sp : Int} {A : zHp}
theorem mAf.rf : mAf h h := ⟨fun _ _ _ _ => rfl, fun _ _ _ _ => rfl⟩
theorem mAf.fr (H : mAf h0 h) (F : mFr h g) : mAf h0 g := ⟨fun c c1 c2 c3 => (F.1 c c1).trans (H.1 c c1 c2 c3), fun i i1 i2 i3 => (F.2 i (by omega)).trans (H.2 i i1 i2 i3)⟩
theorem mAf.up7 (H : mAf h0 h) {i : Nat} (hi : (12 ≤ i ∧ i ≤ 19) ∨ i = 27 ∨ i = 34) (v : Int) : mAf h0 (zup h 117 i v) := ⟨fun c c1 c2 c3 => by rw [zup_off c1]; exact H.1 c c1 c2 c3, fun j j1 j2 j3 => by rw [zup_ne (by omega)]; exact H.2 j j1 j2 j3⟩
theorem mAf.upr (H : mAf h0 h) {c : Nat} (hc : (130 ≤ c ∧ c ≤ 133) ∨ c = 135) (i : Nat) (v : Int) : mAf h0 (zup h c i v) := ⟨fun x c1 c2 c3 => by rw [zup_off (by omega)]; exact H.1 x c1 c2 c3, fun j j1 j2 j3 => by rw [zup_off (by omega)]; exact H.2 j j1 j2 j3⟩
theorem mA.T (M : mA h0 B L q s sp A h) : mTk B L q h := M.2.2.2.2.1
theorem mA.hb (M : mA h0 B L q s sp A h) : h 117 12 = 0 := M.2.2.1
theorem mA.hq (M : mA h0 B L q s sp A h) : q ≤ L := M.2.2.2.1
theorem mA.gs (M : mA h0 B L q s sp A h) : h 117 27 = (s : Int) := M.2.2.2.2.2.1.1
theorem mA.gp (M : mA h0 B L q s sp A h) : h 117 34 = sp := M.2.2.2.2.2.1.2
theorem mA.r (M : mA h0 B L q s sp A h) : mAr h A := M.2.2.2.2.2.2
theorem mA.fr {q2 : Nat} (M : mA h0 B L q s sp A h) (F : mFr h g) (T : mTk B L q2 g) (hq : q2 ≤ L) : mA h0 B L q2 s sp A g := ⟨M.1.fr F, M.2.1.fr F, (F.2 12 (by decide)).trans M.hb, hq, T, ⟨(F.2 27 (by decide)).trans M.gs, (F.2 34 (by decide)).trans M.gp⟩, by
  have r := M.r
  unfold mAr at r ⊢
  rw [F.1 130 (by decide), F.1 131 (by decide), F.1 132 (by decide), F.1 133 (by decide), F.1 135 (by decide)]
  exact r⟩
theorem mA.bad (M : mA h0 B L q s sp A h) {k : Int} (hk : 0 < k) (a : Nat) : mAx h0 k a (mBad h k a) := ⟨(M.1.up7 (Or.inl (by decide)) k).up7 (Or.inl (by decide)) _, by unfold mBad; rw [zup_ne (by decide), zup_at], by unfold mBad; rw [zup_at], hk⟩
theorem mA.next (M : mA h0 B L q s sp A h) (hk : ¬ tkK B L q = 4) : zCv mX12_next 1 [zA 117] h (fun h' => mA h0 B L (tkE B L q) s sp A h') := (r_nx h B L M.2.1 _ (tk_b M.hq).2.2.1 (M.T.2.2.2.2 hk)).wkn (fun _ z => M.fr z.1 z.2 (tk_b M.hq).2.2.1)
theorem mA.wrong (M : mA h0 B L q s sp A h) : zCv mX12_wrong 1 [zA 117] h (fun h' => mAx h0 (fK (tkK B L q) 2) (tkA B L q) h') := (r_wrong h B L q M.T M.hb).wkn (fun _ z => by rw [← z]; exact M.bad (fK_pos (by omega)) _)
theorem mA.fail (M : mA h0 B L q s sp A h) (k : Int) (hk : 0 < k) : zCv mX12_fail 0 [zA 117, zI k, zI (tkA B L q : Nat)] h (fun h' => mAx h0 k (tkA B L q) h') := (r_failM h M.hb k _).wkn (fun _ z => by rw [← z]; exact M.bad hk _)
theorem mA.must (M : mA h0 B L q s sp A h) (x : Int) (hx : x = 0 ∨ x = 1) (hk : x = 1 → ¬ tkK B L q = 4) : zCv mX12_must 2 [zA 117, zI x] h (fun h' => (x = 1 → mA h0 B L (tkE B L q) s sp A h') ∧ (x = 0 → mAx h0 (fK (tkK B L q) 2) (tkA B L q) h')) := (r_must h B L M.2.1 q M.hq M.T M.hb x hx hk).wkn (fun _ z => ⟨fun y => M.fr (z.1 y).1 (z.1 y).2 (tk_b M.hq).2.2.1, fun y => by rw [← z.2 y]; exact M.bad (fK_pos (by omega)) _⟩)
theorem mA.cnt (M : mA h0 B L q s sp A h) (lo hi : Int) : zCi mX12_count 2 [zA 117, zI lo, zI hi] h (fun v h' => (nuK B L q lo hi = 0 → tkV B L q = v ∧ mA h0 B L (tkE B L q) s sp A h') ∧ (¬ nuK B L q lo hi = 0 → (0 : Int) = v ∧ mAx h0 (nuK B L q lo hi) (tkA B L q) h')) := (r_count h B L M.2.1 q M.hq M.T M.hb lo hi).wkn (fun _ _ z => ⟨fun y => ⟨(z.1 y).1, M.fr (z.1 y).2.1 (z.1 y).2.2 (tk_b M.hq).2.2.1⟩, fun y => ⟨(z.2 y).1, by rw [← (z.2 y).2]; exact M.bad (by have := (nuK_b (B := B) (L := L) (q := q) (lo := lo) (hi := hi)).1; omega) _⟩⟩)
theorem mAx.b {k : Int} {a : Nat} (M : mAx h0 k a h) : 0 < h 117 12 := by rw [M.2.1]; exact M.2.2.2
theorem mAx.upr {k : Int} {a : Nat} (M : mAx h0 k a h) {c : Nat} (hc : (130 ≤ c ∧ c ≤ 133) ∨ c = 135) (i : Nat) (v : Int) : mAx h0 k a (zup h c i v) := ⟨M.1.upr hc i v, by rw [zup_off (by omega)]; exact M.2.1, by rw [zup_off (by omega)]; exact M.2.2.1, M.2.2.2⟩
theorem mA.upc (M : mA h0 B L q s sp A h) {c : Nat} (hc : (130 ≤ c ∧ c ≤ 133) ∨ c = 135) (i : Nat) (v : Int) {A2 : zHp} (r : mAr (zup h c i v) A2) : mA h0 B L q s sp A2 (zup h c i v) := ⟨M.1.upr hc i v, M.2.1.cg (by rw [zup_off (by omega)]) (by rw [zup_off (by omega)]), by rw [zup_off (by omega)]; exact M.hb, M.hq, M.T.cg (fun i _ => by rw [zup_off (by omega)]), ⟨by rw [zup_off (by omega)]; exact M.gs, by rw [zup_off (by omega)]; exact M.gp⟩, r⟩
theorem mA.up130 (M : mA h0 B L q s sp A h) (j : Nat) (v : Int) : mA h0 B L q s sp (zup A 126 j v) (zup h 130 j v) := M.upc (by omega) j v ⟨zup_row M.r.1 j v, by rw [zup_off (by decide), zup_off (by decide)]; exact M.r.2.1, by rw [zup_off (by decide), zup_off (by decide)]; exact M.r.2.2.1, by rw [zup_off (by decide), zup_off (by decide)]; exact M.r.2.2.2.1, by rw [zup_off (by decide), zup_off (by decide)]; exact M.r.2.2.2.2⟩
theorem mA.up131 (M : mA h0 B L q s sp A h) (j : Nat) (v : Int) : mA h0 B L q s sp (zup A 127 j v) (zup h 131 j v) := M.upc (by omega) j v ⟨by rw [zup_off (by decide), zup_off (by decide)]; exact M.r.1, zup_row M.r.2.1 j v, by rw [zup_off (by decide), zup_off (by decide)]; exact M.r.2.2.1, by rw [zup_off (by decide), zup_off (by decide)]; exact M.r.2.2.2.1, by rw [zup_off (by decide), zup_off (by decide)]; exact M.r.2.2.2.2⟩
theorem mA.up132 (M : mA h0 B L q s sp A h) (j : Nat) (v : Int) : mA h0 B L q s sp (zup A 128 j v) (zup h 132 j v) := M.upc (by omega) j v ⟨by rw [zup_off (by decide), zup_off (by decide)]; exact M.r.1, by rw [zup_off (by decide), zup_off (by decide)]; exact M.r.2.1, zup_row M.r.2.2.1 j v, by rw [zup_off (by decide), zup_off (by decide)]; exact M.r.2.2.2.1, by rw [zup_off (by decide), zup_off (by decide)]; exact M.r.2.2.2.2⟩
theorem mA.up133 (M : mA h0 B L q s sp A h) (j : Nat) (v : Int) : mA h0 B L q s sp (zup A 129 j v) (zup h 133 j v) := M.upc (by omega) j v ⟨by rw [zup_off (by decide), zup_off (by decide)]; exact M.r.1, by rw [zup_off (by decide), zup_off (by decide)]; exact M.r.2.1, by rw [zup_off (by decide), zup_off (by decide)]; exact M.r.2.2.1, zup_row M.r.2.2.2.1 j v, by rw [zup_off (by decide), zup_off (by decide)]; exact M.r.2.2.2.2⟩
theorem mA.up135 (M : mA h0 B L q s sp A h) (j : Nat) (v : Int) : mA h0 B L q s sp (zup A 134 j v) (zup h 135 j v) := M.upc (by omega) j v ⟨by rw [zup_off (by decide), zup_off (by decide)]; exact M.r.1, by rw [zup_off (by decide), zup_off (by decide)]; exact M.r.2.1, by rw [zup_off (by decide), zup_off (by decide)]; exact M.r.2.2.1, by rw [zup_off (by decide), zup_off (by decide)]; exact M.r.2.2.2.1, zup_row M.r.2.2.2.2 j v⟩
theorem mA.up27 (M : mA h0 B L q s sp A h) (s2 : Nat) : mA h0 B L q s2 sp A (zup h 117 27 (s2 : Int)) := ⟨M.1.up7 (by omega) _, M.2.1.cg (by rw [zup_ne (by decide)]) (by rw [zup_off (by decide)]), by rw [zup_ne (by decide)]; exact M.hb, M.hq, M.T.cg (fun i hi => by rw [zup_ne (by omega)]), ⟨zup_at _ _ _ _, by rw [zup_ne (by decide)]; exact M.gp⟩, by
  have r := M.r
  unfold mAr at r ⊢
  rw [zup_off (by decide), zup_off (by decide), zup_off (by decide), zup_off (by decide), zup_off (by decide)]
  exact r⟩
theorem mA.up34 (M : mA h0 B L q s sp A h) (v : Int) : mA h0 B L q s v A (zup h 117 34 v) := ⟨M.1.up7 (by omega) _, M.2.1.cg (by rw [zup_ne (by decide)]) (by rw [zup_off (by decide)]), by rw [zup_ne (by decide)]; exact M.hb, M.hq, M.T.cg (fun i hi => by rw [zup_ne (by omega)]), ⟨by rw [zup_ne (by decide)]; exact M.gs, zup_at _ _ _ _⟩, by
  have r := M.r
  unfold mAr at r ⊢
  rw [zup_off (by decide), zup_off (by decide), zup_off (by decide), zup_off (by decide), zup_off (by decide)]
  exact r⟩
def maR (h0 : zHp) (B : Nat → Int) (L s : Nat) (sp : Int) (R : Ra) (h : zHp) : Prop := match R with
  | .inl e => mAx h0 e.1 e.2 h
  | .inr r => mA h0 B L r.1 s sp r.2 h
end
theorem r_readWho (h0 h : zHp) (B : Nat → Int) (L q s j : Nat) (sp : Int) (A : zHp) (M : mA h0 B L q s sp A h) (hj : j < 40) (x : Int) (hx : x = 0 ∨ x = 1) : zCv mX12_readWho 4 [zA 117, zI j, zI x] h (fun h' => maR h0 B L s sp (whF B L j q x A) h') := by
  refine z_enter [zA 117, zI j, zI x, zU] (by decide +kernel) (Nat.le_of_ble_eq_true rfl) rfl (fun hra hrg => ?_)
  have hb := M.hb
  have kb := tk_b (B := B) M.hq
  refine z_al0 eX12_readWho_0 ?_
  refine z_gi eX12_readWho_1 fX12_201 zs117 ?_
  refine z_ine eX12_readWho_4 rfl (fun c4 => ?_) (fun c4 => ?_)
  · exact absurd hb c4
  · refine z_il2 eX12_readWho_7 ?_
    refine z_ieq eX12_readWho_8 rfl (fun c8 => ?_) (fun c8 => ?_)
    · refine z_ki eX12_readWho_22 ?_
      refine z_is3 eX12_readWho_23 zn0 ?_
      refine z_il3 eX12_readWho_24 ?_
      refine z_ieq eX12_readWho_25 rfl (fun c25 => ?_) (fun c25 => ?_)
      · refine z_al0 eX12_readWho_32 ?_
        refine z_gi eX12_readWho_33 fX12_201 zs117 ?_
        refine z_ine eX12_readWho_36 rfl (fun c36 => ?_) (fun c36 => ?_)
        · exact absurd M.hb c36
        · refine z_al0 eX12_readWho_39 ?_
          refine zc_vi0 eX12_readWho_40 lX12_479 tX12_isActName zs117 (by decide) (Nat.le_of_ble_eq_true rfl) (r_isAct _ B L _ M.hq M.T) ?_
          rintro _ _ ⟨rfl, rfl⟩ -
          refine z_ine eX12_readWho_43 rfl (fun c43 => ?_) (fun c43 => ?_)
          · have za := b01T c43
            refine z_al0 eX12_readWho_50 ?_
            refine z_gi eX12_readWho_51 fX12_201 zs117 ?_
            refine z_ile eX12_readWho_54 rfl (fun c54 => ?_) (fun c54 => ?_)
            · refine z_al0 eX12_readWho_58 ?_
              refine z_ga eX12_readWho_59 fX12_62 zs117 (t := 131) rfl ?_
              refine z_il1 eX12_readWho_62 ?_
              refine z_il3 eX12_readWho_63 ?_
              refine z_ieq eX12_readWho_64 rfl (fun c64 => ?_) (fun c64 => ?_)
              · refine z_ki eX12_readWho_71 ?_
                refine zs_iN eX12_readWho_72 zs131 (j := j) (by omega) (by omega) ?_
                refine z_al0 eX12_readWho_73 ?_
                refine z_ga eX12_readWho_74 fX12_74 zs117 (t := 135) rfl ?_
                refine z_il1 eX12_readWho_77 ?_
                refine z_al0 eX12_readWho_78 ?_
                refine z_gj eX12_readWho_79 fX12_155 zs117 ?_
                rw [zup_off (by decide), ((M.T.2.2.1 za.1).2 za.2.1).1]
                refine zs_lN eX12_readWho_82 zs135 (j := j) (by omega) (by omega) ?_
                have M2 := (M.up131 j 0).up135 j (tkW B L q)
                refine z_al0 eX12_readWho_83 ?_
                refine zc_vv0 eX12_readWho_84 lX12_211 tX12_next zs117 (by decide) (Nat.le_of_ble_eq_true rfl) (M2.next (by have := za.1; omega)) ?_
                rintro g3 M3
                refine ze_v eX12_readWho_87 rfl ?_
                have eW : whF B L j q x A = wh1 B L j q 0 A := if_neg (by omega)
                have e2 : wh1 B L j q 0 A = .inr (tkE B L q, zup (zup A 127 j 0) 134 j (tkW B L q)) := by unfold wh1; rw [if_pos za]
                rw [eW, e2]
                exact M3
              · exact absurd rfl c64
            · exfalso; have := M.hb; omega
          · have za := b01F c43
            refine z_al0 eX12_readWho_46 ?_
            refine zc_vv0 eX12_readWho_47 lX12_214 tX12_wrong zs117 (by decide) (Nat.le_of_ble_eq_true rfl) M.wrong ?_
            rintro g2 X1
            have xb := X1.b
            refine z_al0 eX12_readWho_50 ?_
            refine z_gi eX12_readWho_51 fX12_201 zs117 ?_
            refine z_ile eX12_readWho_54 rfl (fun c54 => ?_) (fun c54 => ?_)
            · exfalso; omega
            · refine ze_v eX12_readWho_57 rfl ?_
              have eW : whF B L j q x A = wh1 B L j q 0 A := if_neg (by omega)
              have e2 : wh1 B L j q 0 A = .inl (fK (tkK B L q) 2, tkA B L q) := by unfold wh1; rw [if_neg za]
              rw [eW, e2]
              exact X1
      · exact absurd rfl c25
    · refine z_al0 eX12_readWho_11 ?_
      refine zc_vi0 eX12_readWho_12 lX12_473 tX12_isNot zs117 (by decide) (Nat.le_of_ble_eq_true rfl) (r_isNot _ B L q M.hq M.T) ?_
      rintro _ _ ⟨rfl, rfl⟩ -
      refine z_ieq eX12_readWho_15 rfl (fun c15 => ?_) (fun c15 => ?_)
      · have z15 := iteF c15
        refine z_ki eX12_readWho_22 ?_
        refine z_is3 eX12_readWho_23 zn0 ?_
        refine z_il3 eX12_readWho_24 ?_
        refine z_ieq eX12_readWho_25 rfl (fun c25 => ?_) (fun c25 => ?_)
        · refine z_al0 eX12_readWho_32 ?_
          refine z_gi eX12_readWho_33 fX12_201 zs117 ?_
          refine z_ine eX12_readWho_36 rfl (fun c36 => ?_) (fun c36 => ?_)
          · exact absurd M.hb c36
          · refine z_al0 eX12_readWho_39 ?_
            refine zc_vi0 eX12_readWho_40 lX12_479 tX12_isActName zs117 (by decide) (Nat.le_of_ble_eq_true rfl) (r_isAct _ B L _ M.hq M.T) ?_
            rintro _ _ ⟨rfl, rfl⟩ -
            refine z_ine eX12_readWho_43 rfl (fun c43 => ?_) (fun c43 => ?_)
            · have za := b01T c43
              refine z_al0 eX12_readWho_50 ?_
              refine z_gi eX12_readWho_51 fX12_201 zs117 ?_
              refine z_ile eX12_readWho_54 rfl (fun c54 => ?_) (fun c54 => ?_)
              · refine z_al0 eX12_readWho_58 ?_
                refine z_ga eX12_readWho_59 fX12_62 zs117 (t := 131) rfl ?_
                refine z_il1 eX12_readWho_62 ?_
                refine z_il3 eX12_readWho_63 ?_
                refine z_ieq eX12_readWho_64 rfl (fun c64 => ?_) (fun c64 => ?_)
                · refine z_ki eX12_readWho_71 ?_
                  refine zs_iN eX12_readWho_72 zs131 (j := j) (by omega) (by omega) ?_
                  refine z_al0 eX12_readWho_73 ?_
                  refine z_ga eX12_readWho_74 fX12_74 zs117 (t := 135) rfl ?_
                  refine z_il1 eX12_readWho_77 ?_
                  refine z_al0 eX12_readWho_78 ?_
                  refine z_gj eX12_readWho_79 fX12_155 zs117 ?_
                  rw [zup_off (by decide), ((M.T.2.2.1 za.1).2 za.2.1).1]
                  refine zs_lN eX12_readWho_82 zs135 (j := j) (by omega) (by omega) ?_
                  have M2 := (M.up131 j 0).up135 j (tkW B L q)
                  refine z_al0 eX12_readWho_83 ?_
                  refine zc_vv0 eX12_readWho_84 lX12_211 tX12_next zs117 (by decide) (Nat.le_of_ble_eq_true rfl) (M2.next (by have := za.1; omega)) ?_
                  rintro g3 M3
                  refine ze_v eX12_readWho_87 rfl ?_
                  have eW : whF B L j q x A = wh1 B L j q 0 A := if_neg (fun y => z15 y.2)
                  have e2 : wh1 B L j q 0 A = .inr (tkE B L q, zup (zup A 127 j 0) 134 j (tkW B L q)) := by unfold wh1; rw [if_pos za]
                  rw [eW, e2]
                  exact M3
                · exact absurd rfl c64
              · exfalso; have := M.hb; omega
            · have za := b01F c43
              refine z_al0 eX12_readWho_46 ?_
              refine zc_vv0 eX12_readWho_47 lX12_214 tX12_wrong zs117 (by decide) (Nat.le_of_ble_eq_true rfl) M.wrong ?_
              rintro g2 X1
              have xb := X1.b
              refine z_al0 eX12_readWho_50 ?_
              refine z_gi eX12_readWho_51 fX12_201 zs117 ?_
              refine z_ile eX12_readWho_54 rfl (fun c54 => ?_) (fun c54 => ?_)
              · exfalso; omega
              · refine ze_v eX12_readWho_57 rfl ?_
                have eW : whF B L j q x A = wh1 B L j q 0 A := if_neg (fun y => z15 y.2)
                have e2 : wh1 B L j q 0 A = .inl (fK (tkK B L q) 2, tkA B L q) := by unfold wh1; rw [if_neg za]
                rw [eW, e2]
                exact X1
        · exact absurd rfl c25
      · have z15 := iteT c15
        refine z_ki eX12_readWho_18 ?_
        refine z_goto eX12_readWho_19 rfl ?_
        refine z_is3 eX12_readWho_23 zn0 ?_
        refine z_il3 eX12_readWho_24 ?_
        refine z_ieq eX12_readWho_25 rfl (fun c25 => ?_) (fun c25 => ?_)
        · exact absurd c25 (by decide)
        · refine z_al0 eX12_readWho_28 ?_
          refine zc_vv0 eX12_readWho_29 lX12_211 tX12_next zs117 (by decide) (Nat.le_of_ble_eq_true rfl) (M.next (by omega)) ?_
          rintro g1 M1
          refine z_al0 eX12_readWho_32 ?_
          refine z_gi eX12_readWho_33 fX12_201 zs117 ?_
          refine z_ine eX12_readWho_36 rfl (fun c36 => ?_) (fun c36 => ?_)
          · exact absurd M1.hb c36
          · refine z_al0 eX12_readWho_39 ?_
            refine zc_vi0 eX12_readWho_40 lX12_479 tX12_isActName zs117 (by decide) (Nat.le_of_ble_eq_true rfl) (r_isAct _ B L _ M1.hq M1.T) ?_
            rintro _ _ ⟨rfl, rfl⟩ -
            refine z_ine eX12_readWho_43 rfl (fun c43 => ?_) (fun c43 => ?_)
            · have za := b01T c43
              refine z_al0 eX12_readWho_50 ?_
              refine z_gi eX12_readWho_51 fX12_201 zs117 ?_
              refine z_ile eX12_readWho_54 rfl (fun c54 => ?_) (fun c54 => ?_)
              · refine z_al0 eX12_readWho_58 ?_
                refine z_ga eX12_readWho_59 fX12_62 zs117 (t := 131) rfl ?_
                refine z_il1 eX12_readWho_62 ?_
                refine z_il3 eX12_readWho_63 ?_
                refine z_ieq eX12_readWho_64 rfl (fun c64 => ?_) (fun c64 => ?_)
                · exact absurd c64 (by decide)
                · refine z_ki eX12_readWho_67 ?_
                  refine z_goto eX12_readWho_68 rfl ?_
                  refine zs_iN eX12_readWho_72 zs131 (j := j) (by omega) (by omega) ?_
                  refine z_al0 eX12_readWho_73 ?_
                  refine z_ga eX12_readWho_74 fX12_74 zs117 (t := 135) rfl ?_
                  refine z_il1 eX12_readWho_77 ?_
                  refine z_al0 eX12_readWho_78 ?_
                  refine z_gj eX12_readWho_79 fX12_155 zs117 ?_
                  rw [zup_off (by decide), ((M1.T.2.2.1 za.1).2 za.2.1).1]
                  refine zs_lN eX12_readWho_82 zs135 (j := j) (by omega) (by omega) ?_
                  have M2 := (M1.up131 j 1).up135 j (tkW B L (tkE B L q))
                  refine z_al0 eX12_readWho_83 ?_
                  refine zc_vv0 eX12_readWho_84 lX12_211 tX12_next zs117 (by decide) (Nat.le_of_ble_eq_true rfl) (M2.next (by have := za.1; omega)) ?_
                  rintro g3 M3
                  refine ze_v eX12_readWho_87 rfl ?_
                  have eW : whF B L j q x A = wh1 B L j (tkE B L q) 1 A := if_pos ⟨by omega, z15⟩
                  have e2 : wh1 B L j (tkE B L q) 1 A = .inr (tkE B L (tkE B L q), zup (zup A 127 j 1) 134 j (tkW B L (tkE B L q))) := by unfold wh1; rw [if_pos za]
                  rw [eW, e2]
                  exact M3
              · exfalso; have := M1.hb; omega
            · have za := b01F c43
              refine z_al0 eX12_readWho_46 ?_
              refine zc_vv0 eX12_readWho_47 lX12_214 tX12_wrong zs117 (by decide) (Nat.le_of_ble_eq_true rfl) M1.wrong ?_
              rintro g2 X1
              have xb := X1.b
              refine z_al0 eX12_readWho_50 ?_
              refine z_gi eX12_readWho_51 fX12_201 zs117 ?_
              refine z_ile eX12_readWho_54 rfl (fun c54 => ?_) (fun c54 => ?_)
              · exfalso; omega
              · refine ze_v eX12_readWho_57 rfl ?_
                have eW : whF B L j q x A = wh1 B L j (tkE B L q) 1 A := if_pos ⟨by omega, z15⟩
                have e2 : wh1 B L j (tkE B L q) 1 A = .inl (fK (tkK B L (tkE B L q)) 2, tkA B L (tkE B L q)) := by unfold wh1; rw [if_neg za]
                rw [eW, e2]
                exact X1
theorem r_readWhoB (h : zHp) (hb : 0 < h 117 12) (j x : Int) : zCv mX12_readWho 4 [zA 117, zI j, zI x] h (fun h' => h = h') := by
  refine z_enter [zA 117, zI j, zI x, zU] (by decide +kernel) (Nat.le_of_ble_eq_true rfl) rfl (fun hra hrg => ?_)
  refine z_al0 eX12_readWho_0 ?_
  refine z_gi eX12_readWho_1 fX12_201 zs117 ?_
  refine z_ine eX12_readWho_4 rfl (fun c4 => ?_) (fun c4 => ?_)
  · refine z_ki eX12_readWho_22 ?_
    refine z_is3 eX12_readWho_23 zn0 ?_
    refine z_il3 eX12_readWho_24 ?_
    refine z_ieq eX12_readWho_25 rfl (fun c25 => ?_) (fun c25 => ?_)
    · refine z_al0 eX12_readWho_32 ?_
      refine z_gi eX12_readWho_33 fX12_201 zs117 ?_
      refine z_ine eX12_readWho_36 rfl (fun c36 => ?_) (fun c36 => ?_)
      · refine z_al0 eX12_readWho_50 ?_
        refine z_gi eX12_readWho_51 fX12_201 zs117 ?_
        refine z_ile eX12_readWho_54 rfl (fun c54 => ?_) (fun c54 => ?_)
        · omega
        · refine ze_v eX12_readWho_57 rfl ?_
          rfl
      · omega
    · exact absurd rfl c25
  · omega
