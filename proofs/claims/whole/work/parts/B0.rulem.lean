-- rule: what must come of a text; the reference (written by wip/tools/specB0.py)
theorem kC_w : kC 7 = 6605428 ∧ kC 8 = 552909459 ∧ kC 9 = 611795 ∧ kC 10 = 16819795 ∧ kC 11 = 463922 ∧ kC 12 = 2098 := by decide +kernel
def ptF (B : Nat → Int) (L c : Nat) (W : Nat → Int) (ht : Int) : Nat → Nat → Nat → (Nat → Int) → Rh
  | 0, _, _, _ => .inl (1, 0)
  | f + 1, i, q, D => if tkK B L q = 3 ∧ 0 < i then .inr (tkE B L q, up D (249 + c) (i : Int), W, ht) else if nuK B L q 0 99 = 0 then (if i = 8 then .inl (6, tkA B L q) else ptF B L c W ht f (i + 1) (tkE B L q) (up D (253 + 8 * c + i) (tkV B L q))) else .inl (nuK B L q 0 99, tkA B L q)
def kdF (B : Nat → Int) (L q : Nat) : Int := if isK B L q 7 then 0 else if isK B L q 8 then 1 else if isK B L q 9 then 2 else if isK B L q 10 then 3 else if isK B L q 11 then 4 else if isK B L q 12 then 5 else -1
def c3F (B : Nat → Int) (L c : Nat) (W : Nat → Int) (ht kd : Int) (q : Nat) (D : Nat → Int) : Rh := if kd = 1 then ptF B L c W ht 9 0 q D else sgF B L q D W ht
def c2F (B : Nat → Int) (L c : Nat) (W : Nat → Int) (ht kd : Int) (q : Nat) (D : Nat → Int) : Rh := if kd = 5 then (if nuK B L q 0 99 = 0 then c3F B L c W ht kd (tkE B L q) (up D (245 + c) (tkV B L q)) else .inl (nuK B L q 0 99, tkA B L q)) else c3F B L c W ht kd q D
def c1F (B : Nat → Int) (L c : Nat) (W : Nat → Int) (ht kd : Int) (q : Nat) (D : Nat → Int) : Rh := if kd = 4 then (if nuK B L q 1 8 = 0 then c2F B L c W ht kd (tkE B L q) (up D (245 + c) (tkV B L q)) else .inl (nuK B L q 1 8, tkA B L q)) else c2F B L c W ht kd q D
def adF (W : Nat → Int) (ht : Int) (s : Nat × (Nat → Int) × (Nat → Int) × Int) : Rh := .inr (s.1, up s.2.1 240 (s.2.1 240 + 1), W, ht)
def clF (B : Nat → Int) (L c q : Nat) (D W : Nat → Int) (ht : Int) : Rh := bnd (c1F B L c W ht (kdF B L q) (tkE B L q) (up (up D (241 + c) (kdF B L q)) (249 + c) 0)) (adF W ht)
def ruF (B : Nat → Int) (L : Nat) (W : Nat → Int) (ht : Int) : Nat → Nat → Nat → (Nat → Int) → Rh
  | 0, _, _, _ => .inl (1, 0)
  | f + 1, c, q, D => if tkK B L q = 0 then .inr (q, D, W, ht) else if kdF B L q = -1 then .inl (fK (tkK B L q) 2, tkA B L q) else if c = 4 then .inl (6, tkA B L q) else bnd (clF B L c q D W ht) (fun s => ruF B L W ht f (c + 1) s.1 s.2.1)
theorem kdF_b {B : Nat → Int} {L q : Nat} : -1 ≤ kdF B L q ∧ kdF B L q ≤ 5 ∧ (¬ kdF B L q = -1 → tkK B L q = 1) := by
  unfold kdF
  by_cases h7 : isK B L q 7
  · rw [if_pos h7]; exact ⟨by omega, by omega, fun _ => h7.1⟩
  rw [if_neg h7]
  by_cases h8 : isK B L q 8
  · rw [if_pos h8]; exact ⟨by omega, by omega, fun _ => h8.1⟩
  rw [if_neg h8]
  by_cases h9 : isK B L q 9
  · rw [if_pos h9]; exact ⟨by omega, by omega, fun _ => h9.1⟩
  rw [if_neg h9]
  by_cases h10 : isK B L q 10
  · rw [if_pos h10]; exact ⟨by omega, by omega, fun _ => h10.1⟩
  rw [if_neg h10]
  by_cases h11 : isK B L q 11
  · rw [if_pos h11]; exact ⟨by omega, by omega, fun _ => h11.1⟩
  rw [if_neg h11]
  by_cases h12 : isK B L q 12
  · rw [if_pos h12]; exact ⟨by omega, by omega, fun _ => h12.1⟩
  rw [if_neg h12]
  exact ⟨by omega, by omega, fun z => absurd rfl z⟩
section
variable {B : Nat → Int} {L c : Nat} {W : Nat → Int} {ht : Int} {f i q : Nat} {D : Nat → Int}
theorem ptF_e (h : tkK B L q = 3 ∧ 0 < i) : ptF B L c W ht (f + 1) i q D = .inr (tkE B L q, up D (249 + c) (i : Int), W, ht) := by rw [ptF, if_pos h]
theorem ptF_n (h : ¬ (tkK B L q = 3 ∧ 0 < i)) (h2 : ¬ nuK B L q 0 99 = 0) : ptF B L c W ht (f + 1) i q D = .inl (nuK B L q 0 99, tkA B L q) := by rw [ptF, if_neg h, if_neg h2]
theorem ptF_6 (h2 : nuK B L q 0 99 = 0) (h3 : i = 8) : ptF B L c W ht (f + 1) i q D = .inl (6, tkA B L q) := by rw [ptF, if_neg (by have := (nuK_b.2.1 h2).1; omega), if_pos h2, if_pos h3]
theorem ptF_g (h2 : nuK B L q 0 99 = 0) (h3 : ¬ i = 8) : ptF B L c W ht (f + 1) i q D = ptF B L c W ht f (i + 1) (tkE B L q) (up D (253 + 8 * c + i) (tkV B L q)) := by rw [ptF, if_neg (by have := (nuK_b.2.1 h2).1; omega), if_pos h2, if_neg h3]
end
def ptM (h0 : zHp) (B : Nat → Int) (L q0 c : Nat) (D W : Nat → Int) (ht : Int) (R : Rh) (h : zHp) : Prop := (∃ (k : Int) (a : Nat), R = .inl (k, a) ∧ mXs h0 k a h) ∨ (∃ (q : Nat) (D2 : Nat → Int), q0 ≤ q ∧ mQ h0 B L q D2 W ht h ∧ D2 240 = D 240 ∧ (tkK B L q = 3 → R = .inr (tkE B L q, D2, W, ht)) ∧ (¬ tkK B L q = 3 → R = .inl (fK (tkK B L q) 2, tkA B L q)))
theorem r_pt_x (h0 : zHp) (B : Nat → Int) (L c q0 : Nat) (D0 W : Nat → Int) (ht : Int) (hc : c < 4) (f i q : Nat) (D : Nat → Int) (g : zHp) (hi : 0 < i) (hf : i + f = 9) (hi8 : i ≤ 8) (M : mQ h0 B L q D W ht g) (hq0 : q0 ≤ q) (h24 : D 240 = D0 240) (k2 : ¬ tkK B L q = 2) : zRW mX12_readPoints 3 (0, 0) 4 [zA 117, zI c, zI i, zI 0, zU] [] 143 g (zqv (fun h' => ptM h0 B L q0 c D0 W ht (ptF B L c W ht f i q D) h')) := by
  obtain ⟨f2, ef⟩ : ∃ f2, f = f2 + 1 := ⟨f - 1, by omega⟩
  subst ef
  refine z_il3 eX12_readPoints_4 ?_
  refine z_ieq eX12_readPoints_5 rfl (fun c5 => ?_) (fun c5 => ?_)
  · refine z_al0 eX12_readPoints_108 ?_
    refine z_ga eX12_readPoints_109 fX12_35 zs117 (t := 122) rfl ?_
    refine z_ki eX12_readPoints_112 ?_
    refine z_il1 eX12_readPoints_115 ?_
    refine z_iaddN eX12_readPoints_116 (by omega) (by omega) ?_
    refine z_il2 eX12_readPoints_117 ?_
    refine zs_iN eX12_readPoints_118 zs122 (j := 1200 + (249 + c)) (by omega) (by omega) ?_
    refine ze_v eX12_readPoints_119 rfl ?_
    have en : nuK B L q 0 99 = fK (tkK B L q) 2 := if_neg k2
    have fp := @fK_pos (tkK B L q) 2 (by omega)
    exact Or.inr ⟨q, _, hq0, M.up2 (i := 249 + c) (i : Int) (by omega), by rw [up_ne (by omega)]; exact h24, fun z => ptF_e ⟨z, hi⟩, fun z => by rw [ptF_n (fun y => z y.1) (by omega), en]⟩
  · exact absurd rfl c5
theorem r_pt_l (h0 : zHp) (B : Nat → Int) (L c q0 : Nat) (D0 W : Nat → Int) (ht : Int) (hc : c < 4) : ∀ (f i q : Nat) (D : Nat → Int) (g : zHp), i + f = 9 → i ≤ 8 → mQ h0 B L q D W ht g → q0 ≤ q → D 240 = D0 240 → (tkK B L q = 2 ∨ i = 0) → zRW mX12_readPoints 3 (0, 0) 4 [zA 117, zI c, zI i, zI 1, zU] [] 143 g (zqv (fun h' => ptM h0 B L q0 c D0 W ht (ptF B L c W ht f i q D) h')) := by
  intro f
  induction f with
  | zero => intro i q D g hf hi8; omega
  | succ f ih =>
    intro i q D g hf hi8 M hq0 h24 k2
    have hb := M.hb
    have t14 := M.T.1
    have t17 := M.T.2.2.2.1
    have kb := tk_b (B := B) M.hq
    refine z_il3 eX12_readPoints_4 ?_
    refine z_ieq eX12_readPoints_5 rfl (fun c5 => ?_) (fun c5 => ?_)
    · exact absurd c5 (by decide)
    · refine z_al0 eX12_readPoints_8 ?_
      refine z_gi eX12_readPoints_9 fX12_201 zs117 ?_
      refine z_ine eX12_readPoints_12 rfl (fun c12 => ?_) (fun c12 => ?_)
      · exact absurd hb c12
      · refine z_il2 eX12_readPoints_15 ?_
        refine z_ki eX12_readPoints_16 ?_
        refine z_cne eX12_readPoints_18 rfl (fun c18 => ?_) (fun c18 => ?_)
        · refine z_al0 eX12_readPoints_54 ?_
          refine z_ki eX12_readPoints_55 ?_
          refine z_ki eX12_readPoints_56 ?_
          refine zc_vi2 eX12_readPoints_58 lX12_235 tX12_count zs117 (by decide) (Nat.le_of_ble_eq_true rfl) (M.cnt 0 99) ?_
          rintro v1 g2 ⟨p1, p2⟩ -
          refine z_is4 eX12_readPoints_61 zn0 ?_
          refine z_al0 eX12_readPoints_63 ?_
          refine z_gi eX12_readPoints_64 fX12_201 zs117 ?_
          refine z_ile eX12_readPoints_67 rfl (fun c67 => ?_) (fun c67 => ?_)
          · have z9 : nuK B L q 0 99 = 0 := by
              by_cases z : nuK B L q 0 99 = 0
              · exact z
              · have := (p2 z).2.b; omega
            obtain ⟨rfl, M1⟩ := p1 z9
            have k3 := nuK_b.2.1 z9
            have h8 : ¬ i = 8 := by omega
            refine z_al0 eX12_readPoints_71 ?_
            refine z_ga eX12_readPoints_72 fX12_35 zs117 (t := 122) rfl ?_
            refine z_ki eX12_readPoints_75 ?_
            refine z_ki eX12_readPoints_78 ?_
            refine z_il1 eX12_readPoints_80 ?_
            refine z_imulN eX12_readPoints_81 (by omega) (by omega) ?_
            refine z_iaddN eX12_readPoints_82 (by omega) (by omega) ?_
            refine z_il2 eX12_readPoints_83 ?_
            refine z_iaddN eX12_readPoints_84 (by omega) (by omega) ?_
            refine z_il4 eX12_readPoints_85 ?_
            refine zs_iN eX12_readPoints_87 zs122 (j := 1200 + (253 + 8 * c + i)) (by omega) (by omega) ?_
            have M2 := M1.up2 (i := 253 + 8 * c + i) (tkV B L q) (by omega)
            have t14n := M2.T.1
            refine z_incN2 eX12_readPoints_88 zn0 (by omega) (by omega) ?_
            refine z_al0 eX12_readPoints_91 ?_
            refine z_gi eX12_readPoints_92 fX12_149 zs117 ?_
            refine z_ki eX12_readPoints_95 ?_
            refine z_cne eX12_readPoints_96 rfl (fun c96 => ?_) (fun c96 => ?_)
            · refine z_ki eX12_readPoints_103 ?_
              refine z_is3 eX12_readPoints_104 zn0 ?_
              refine z_goto eX12_readPoints_105 rfl ?_
              refine z_fg4 ?_
              rw [ptF_g z9 h8]
              exact r_pt_x h0 B L c q0 D0 W ht hc f (i + 1) (tkE B L q) _ _ (by omega) (by omega) (by omega) M2 (by omega) (by rw [up_ne (by omega)]; exact h24) (by omega)
            · refine z_ki eX12_readPoints_99 ?_
              refine z_goto eX12_readPoints_100 rfl ?_
              refine z_is3 eX12_readPoints_104 zn0 ?_
              refine z_goto eX12_readPoints_105 rfl ?_
              refine z_fg4 ?_
              rw [ptF_g z9 h8]
              exact ih (i + 1) (tkE B L q) _ _ (by omega) (by omega) M2 (by omega) (by rw [up_ne (by omega)]; exact h24) (Or.inl (by omega))
          · have z9 : ¬ nuK B L q 0 99 = 0 := fun z => by have := (p1 z).2.hb; omega
            have X1 := (p2 z9).2
            refine ze_v eX12_readPoints_70 rfl ?_
            exact Or.inl ⟨_, _, ptF_n (by omega) z9, X1⟩
        · refine z_al0 eX12_readPoints_21 ?_
          refine z_gi eX12_readPoints_22 fX12_149 zs117 ?_
          refine z_ki eX12_readPoints_25 ?_
          refine z_cne eX12_readPoints_26 rfl (fun c26 => ?_) (fun c26 => ?_)
          · refine z_al0 eX12_readPoints_54 ?_
            refine z_ki eX12_readPoints_55 ?_
            refine z_ki eX12_readPoints_56 ?_
            refine zc_vi2 eX12_readPoints_58 lX12_235 tX12_count zs117 (by decide) (Nat.le_of_ble_eq_true rfl) (M.cnt 0 99) ?_
            rintro v1 g2 ⟨p1, p2⟩ -
            refine z_is4 eX12_readPoints_61 zn0 ?_
            refine z_al0 eX12_readPoints_63 ?_
            refine z_gi eX12_readPoints_64 fX12_201 zs117 ?_
            refine z_ile eX12_readPoints_67 rfl (fun c67 => ?_) (fun c67 => ?_)
            · have z9 : nuK B L q 0 99 = 0 := by
                by_cases z : nuK B L q 0 99 = 0
                · exact z
                · have := (p2 z).2.b; omega
              obtain ⟨rfl, M1⟩ := p1 z9
              have k3 := nuK_b.2.1 z9
              have h8 : ¬ i = 8 := by omega
              refine z_al0 eX12_readPoints_71 ?_
              refine z_ga eX12_readPoints_72 fX12_35 zs117 (t := 122) rfl ?_
              refine z_ki eX12_readPoints_75 ?_
              refine z_ki eX12_readPoints_78 ?_
              refine z_il1 eX12_readPoints_80 ?_
              refine z_imulN eX12_readPoints_81 (by omega) (by omega) ?_
              refine z_iaddN eX12_readPoints_82 (by omega) (by omega) ?_
              refine z_il2 eX12_readPoints_83 ?_
              refine z_iaddN eX12_readPoints_84 (by omega) (by omega) ?_
              refine z_il4 eX12_readPoints_85 ?_
              refine zs_iN eX12_readPoints_87 zs122 (j := 1200 + (253 + 8 * c + i)) (by omega) (by omega) ?_
              have M2 := M1.up2 (i := 253 + 8 * c + i) (tkV B L q) (by omega)
              have t14n := M2.T.1
              refine z_incN2 eX12_readPoints_88 zn0 (by omega) (by omega) ?_
              refine z_al0 eX12_readPoints_91 ?_
              refine z_gi eX12_readPoints_92 fX12_149 zs117 ?_
              refine z_ki eX12_readPoints_95 ?_
              refine z_cne eX12_readPoints_96 rfl (fun c96 => ?_) (fun c96 => ?_)
              · refine z_ki eX12_readPoints_103 ?_
                refine z_is3 eX12_readPoints_104 zn0 ?_
                refine z_goto eX12_readPoints_105 rfl ?_
                refine z_fg4 ?_
                rw [ptF_g z9 h8]
                exact r_pt_x h0 B L c q0 D0 W ht hc f (i + 1) (tkE B L q) _ _ (by omega) (by omega) (by omega) M2 (by omega) (by rw [up_ne (by omega)]; exact h24) (by omega)
              · refine z_ki eX12_readPoints_99 ?_
                refine z_goto eX12_readPoints_100 rfl ?_
                refine z_is3 eX12_readPoints_104 zn0 ?_
                refine z_goto eX12_readPoints_105 rfl ?_
                refine z_fg4 ?_
                rw [ptF_g z9 h8]
                exact ih (i + 1) (tkE B L q) _ _ (by omega) (by omega) M2 (by omega) (by rw [up_ne (by omega)]; exact h24) (Or.inl (by omega))
            · have z9 : ¬ nuK B L q 0 99 = 0 := fun z => by have := (p1 z).2.hb; omega
              have X1 := (p2 z9).2
              refine ze_v eX12_readPoints_70 rfl ?_
              exact Or.inl ⟨_, _, ptF_n (by omega) z9, X1⟩
          · refine z_al0 eX12_readPoints_29 ?_
            refine z_gi eX12_readPoints_30 fX12_168 zs117 ?_
            rw [t17 (by omega)]
            refine z_i2l eX12_readPoints_33 ?_
            refine z_kj eX12_readPoints_34 ?_
            refine z_kj eX12_readPoints_35 ?_
            refine zc_si3 eX12_readPoints_38 lX12_133 tX12_isIn (by decide) (Nat.le_of_ble_eq_true rfl) (r_isIn _ _ _ _) ?_
            rintro _ _ ⟨rfl, rfl⟩ -
            refine z_ieq eX12_readPoints_41 rfl (fun c41 => ?_) (fun c41 => ?_)
            · have z41 := iteF c41
              refine z_al0 eX12_readPoints_54 ?_
              refine z_ki eX12_readPoints_55 ?_
              refine z_ki eX12_readPoints_56 ?_
              refine zc_vi2 eX12_readPoints_58 lX12_235 tX12_count zs117 (by decide) (Nat.le_of_ble_eq_true rfl) (M.cnt 0 99) ?_
              rintro v1 g2 ⟨p1, p2⟩ -
              refine z_is4 eX12_readPoints_61 zn0 ?_
              refine z_al0 eX12_readPoints_63 ?_
              refine z_gi eX12_readPoints_64 fX12_201 zs117 ?_
              refine z_ile eX12_readPoints_67 rfl (fun c67 => ?_) (fun c67 => ?_)
              · have z9 : nuK B L q 0 99 = 0 := by
                  by_cases z : nuK B L q 0 99 = 0
                  · exact z
                  · have := (p2 z).2.b; omega
                obtain ⟨rfl, M1⟩ := p1 z9
                have k3 := nuK_b.2.1 z9
                have h8 : ¬ i = 8 := by omega
                refine z_al0 eX12_readPoints_71 ?_
                refine z_ga eX12_readPoints_72 fX12_35 zs117 (t := 122) rfl ?_
                refine z_ki eX12_readPoints_75 ?_
                refine z_ki eX12_readPoints_78 ?_
                refine z_il1 eX12_readPoints_80 ?_
                refine z_imulN eX12_readPoints_81 (by omega) (by omega) ?_
                refine z_iaddN eX12_readPoints_82 (by omega) (by omega) ?_
                refine z_il2 eX12_readPoints_83 ?_
                refine z_iaddN eX12_readPoints_84 (by omega) (by omega) ?_
                refine z_il4 eX12_readPoints_85 ?_
                refine zs_iN eX12_readPoints_87 zs122 (j := 1200 + (253 + 8 * c + i)) (by omega) (by omega) ?_
                have M2 := M1.up2 (i := 253 + 8 * c + i) (tkV B L q) (by omega)
                have t14n := M2.T.1
                refine z_incN2 eX12_readPoints_88 zn0 (by omega) (by omega) ?_
                refine z_al0 eX12_readPoints_91 ?_
                refine z_gi eX12_readPoints_92 fX12_149 zs117 ?_
                refine z_ki eX12_readPoints_95 ?_
                refine z_cne eX12_readPoints_96 rfl (fun c96 => ?_) (fun c96 => ?_)
                · refine z_ki eX12_readPoints_103 ?_
                  refine z_is3 eX12_readPoints_104 zn0 ?_
                  refine z_goto eX12_readPoints_105 rfl ?_
                  refine z_fg4 ?_
                  rw [ptF_g z9 h8]
                  exact r_pt_x h0 B L c q0 D0 W ht hc f (i + 1) (tkE B L q) _ _ (by omega) (by omega) (by omega) M2 (by omega) (by rw [up_ne (by omega)]; exact h24) (by omega)
                · refine z_ki eX12_readPoints_99 ?_
                  refine z_goto eX12_readPoints_100 rfl ?_
                  refine z_is3 eX12_readPoints_104 zn0 ?_
                  refine z_goto eX12_readPoints_105 rfl ?_
                  refine z_fg4 ?_
                  rw [ptF_g z9 h8]
                  exact ih (i + 1) (tkE B L q) _ _ (by omega) (by omega) M2 (by omega) (by rw [up_ne (by omega)]; exact h24) (Or.inl (by omega))
              · have z9 : ¬ nuK B L q 0 99 = 0 := fun z => by have := (p1 z).2.hb; omega
                have X1 := (p2 z9).2
                refine ze_v eX12_readPoints_70 rfl ?_
                exact Or.inl ⟨_, _, ptF_n (by omega) z9, X1⟩
            · have z41 := iteT c41
              refine z_al0 eX12_readPoints_44 ?_
              refine z_ki eX12_readPoints_45 ?_
              refine z_al0 eX12_readPoints_47 ?_
              refine z_gi eX12_readPoints_48 fX12_143 zs117 ?_
              rw [M.T.2.1]
              refine zc_vv2 eX12_readPoints_51 lX12_207 tX12_fail zs117 (by decide) (Nat.le_of_ble_eq_true rfl) (M.fail 6 (by decide)) ?_
              rintro g1 X1
              have xb := X1.b
              refine z_al0 eX12_readPoints_54 ?_
              refine z_ki eX12_readPoints_55 ?_
              refine z_ki eX12_readPoints_56 ?_
              refine zc_vi2 eX12_readPoints_58 lX12_235 tX12_count zs117 (by decide) (Nat.le_of_ble_eq_true rfl) (r_countB _ xb _ _) ?_
              rintro _ _ ⟨rfl, rfl⟩ -
              refine z_is4 eX12_readPoints_61 zn0 ?_
              refine z_al0 eX12_readPoints_63 ?_
              refine z_gi eX12_readPoints_64 fX12_201 zs117 ?_
              refine z_ile eX12_readPoints_67 rfl (fun c67 => ?_) (fun c67 => ?_)
              · exfalso; omega
              · refine ze_v eX12_readPoints_70 rfl ?_
                exact Or.inl ⟨_, _, ptF_6 (nuK_b.2.2 ⟨by omega, z41.1, z41.2⟩) (by omega), X1⟩
theorem r_pts (h0 h : zHp) (B : Nat → Int) (L q c : Nat) (D W : Nat → Int) (ht : Int) (M : mQ h0 B L q D W ht h) (hc : c < 4) : zCv mX12_readPoints 3 [zA 117, zI c] h (fun h' => ptM h0 B L q c D W ht (ptF B L c W ht 9 0 q D) h') := by
  refine z_enter [zA 117, zI c, zU, zU, zU] (by decide +kernel) (Nat.le_of_ble_eq_true rfl) rfl (fun hra hrg => ?_)
  refine z_ki eX12_readPoints_0 ?_
  refine z_is2 eX12_readPoints_1 zn0 ?_
  refine z_ki eX12_readPoints_2 ?_
  refine z_is3 eX12_readPoints_3 zn0 ?_
  exact r_pt_l h0 B L c q D W ht hc 9 0 q D h rfl (by omega) M (Nat.le_refl _) rfl (Or.inr rfl)
theorem r_ptsB (h : zHp) (hb : 0 < h 117 12) (c : Nat) (hc : c < 4) : zCv mX12_readPoints 3 [zA 117, zI c] h (fun h' => zup h 122 (1200 + (249 + c)) 0 = h') := by
  refine z_enter [zA 117, zI c, zU, zU, zU] (by decide +kernel) (Nat.le_of_ble_eq_true rfl) rfl (fun hra hrg => ?_)
  refine z_ki eX12_readPoints_0 ?_
  refine z_is2 eX12_readPoints_1 zn0 ?_
  refine z_ki eX12_readPoints_2 ?_
  refine z_is3 eX12_readPoints_3 zn0 ?_
  refine z_il3 eX12_readPoints_4 ?_
  refine z_ieq eX12_readPoints_5 rfl (fun c5 => ?_) (fun c5 => ?_)
  · exact absurd c5 (by decide)
  · refine z_al0 eX12_readPoints_8 ?_
    refine z_gi eX12_readPoints_9 fX12_201 zs117 ?_
    refine z_ine eX12_readPoints_12 rfl (fun c12 => ?_) (fun c12 => ?_)
    · refine z_al0 eX12_readPoints_108 ?_
      refine z_ga eX12_readPoints_109 fX12_35 zs117 (t := 122) rfl ?_
      refine z_ki eX12_readPoints_112 ?_
      refine z_il1 eX12_readPoints_115 ?_
      refine z_iaddN eX12_readPoints_116 (by omega) (by omega) ?_
      refine z_il2 eX12_readPoints_117 ?_
      refine zs_iN eX12_readPoints_118 zs122 (j := 1200 + (249 + c)) (by omega) (by omega) ?_
      refine ze_v eX12_readPoints_119 rfl ?_
      rfl
    · omega
