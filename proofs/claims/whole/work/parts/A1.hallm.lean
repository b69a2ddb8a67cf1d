-- the reference reads a hall: names, rows (written by wip/tools/specZ1.py)
section
variable {h0 h : zHp} {B : Nat → Int} {L q : Nat} {D W : Nat → Int} {ht : Int}
theorem mQ.T (M : mQ h0 B L q D W ht h) : mTk B L q h := M.2.2.2.2.1
theorem mQ.hb (M : mQ h0 B L q D W ht h) : h 117 12 = 0 := M.2.2.1
theorem mQ.hq (M : mQ h0 B L q D W ht h) : q ≤ L := M.2.2.2.1
theorem mQ.c (M : mQ h0 B L q D W ht h) (j : Nat) (hj : j < 300) : h 122 (1200 + j) = D j := M.2.2.2.2.2.1 j hj
theorem mQ.w (M : mQ h0 B L q D W ht h) (j : Nat) (hj : j < 8) : h 123 (32 + j) = W j := M.2.2.2.2.2.2.1 j hj
theorem mQ.t (M : mQ h0 B L q D W ht h) : h 117 70 = ht := M.2.2.2.2.2.2.2
theorem mQ.next (M : mQ h0 B L q D W ht h) (hk : ¬ tkK B L q = 4) : zCv mX12_next 1 [zA 117] h (fun h' => mQ h0 B L (tkE B L q) D W ht h') := (r_nx h B L M.2.1 _ (tk_b M.hq).2.2.1 (M.T.2.2.2.2 hk)).wkn (fun _ z => M.fr z.1 z.2 (tk_b M.hq).2.2.1)
theorem mQ.wrong (M : mQ h0 B L q D W ht h) : zCv mX12_wrong 1 [zA 117] h (fun h' => mXs h0 (fK (tkK B L q) 2) (tkA B L q) h') := (r_wrong h B L q M.T M.hb).wkn (fun _ z => by rw [← z]; exact M.bad (fK_pos (by omega)) _)
theorem mQ.fail (M : mQ h0 B L q D W ht h) (k : Int) (hk : 0 < k) : zCv mX12_fail 0 [zA 117, zI k, zI (tkA B L q : Nat)] h (fun h' => mXs h0 k (tkA B L q) h') := (r_failM h M.hb k _).wkn (fun _ z => by rw [← z]; exact M.bad hk _)
theorem mQ.must (M : mQ h0 B L q D W ht h) (x : Int) (hx : x = 0 ∨ x = 1) (hk : x = 1 → ¬ tkK B L q = 4) : zCv mX12_must 2 [zA 117, zI x] h (fun h' => (x = 1 → mQ h0 B L (tkE B L q) D W ht h') ∧ (x = 0 → mXs h0 (fK (tkK B L q) 2) (tkA B L q) h')) := (r_must h B L M.2.1 q M.hq M.T M.hb x hx hk).wkn (fun _ z => ⟨fun y => M.fr (z.1 y).1 (z.1 y).2 (tk_b M.hq).2.2.1, fun y => by rw [← z.2 y]; exact M.bad (fK_pos (by omega)) _⟩)
theorem mQ.cnt (M : mQ h0 B L q D W ht h) (lo hi : Int) : zCi mX12_count 2 [zA 117, zI lo, zI hi] h (fun v h' => (nuK B L q lo hi = 0 → tkV B L q = v ∧ mQ h0 B L (tkE B L q) D W ht h') ∧ (¬ nuK B L q lo hi = 0 → (0 : Int) = v ∧ mXs h0 (nuK B L q lo hi) (tkA B L q) h')) := (r_count h B L M.2.1 q M.hq M.T M.hb lo hi).wkn (fun _ _ z => ⟨fun y => ⟨(z.1 y).1, M.fr (z.1 y).2.1 (z.1 y).2.2 (tk_b M.hq).2.2.1⟩, fun y => ⟨(z.2 y).1, by rw [← (z.2 y).2]; exact M.bad (by have := (nuK_b (B := B) (L := L) (q := q) (lo := lo) (hi := hi)).1; omega) _⟩⟩)
theorem mXs.b {k : Int} {a : Nat} (M : mXs h0 k a h) : 0 < h 117 12 := by rw [M.2.1]; exact M.2.2.2
/-- the reference after a reading -/
def mR (h0 : zHp) (B : Nat → Int) (L q0 : Nat) (R : Rh) (h : zHp) : Prop := match R with
  | .inl e => mXs h0 e.1 e.2 h
  | .inr s => q0 < s.1 ∧ mQ h0 B L s.1 s.2.1 s.2.2.1 s.2.2.2 h ∧ dN s.2.1
end
theorem nN_dN {D : Nat → Int} (H : dN D) : D 0 = (nN D : Int) ∧ nN D ≤ 8 ∧ D 1 = (nS D : Int) ∧ nS D ≤ 20 := by
  unfold nN nS
  unfold dN at H
  omega
theorem r_nn_l (h : zHp) (W : Nat → Int) (w : Int) (N : Nat) (hN : N ≤ 8) (e0 : h 122 1200 = (N : Int)) (eW : ∀ k : Nat, k < 8 → h 123 (32 + k) = W k) (e19 : h 117 19 = w) : ∀ (r k : Nat), k + r = N → zRW mX12_newName 0 (0, 0) 2 [zA 117, zI k] [] 143 h (zqi (fun v h' => fdF W w r k = v ∧ h = h')) := by
  intro r
  induction r using Nat.strongRecOn with
  | ind r ih =>
    intro k hk
    refine z_il1 eX12_newName_2 ?_
    refine z_al0 eX12_newName_3 ?_
    refine z_ga eX12_newName_4 fX12_35 zs117 (t := 122) rfl ?_
    refine z_ki eX12_newName_7 ?_
    refine zr_iN eX12_newName_10 zs122 (j := 1200) (by omega) (by omega) ?_
    refine z_cge eX12_newName_11 rfl (fun c11 => ?_) (fun c11 => ?_)
    · refine z_ki eX12_newName_39 ?_
      refine ze_i eX12_newName_40 rfl ?_
      have e1 : r = 0 := by omega
      rw [e1]
      exact ⟨rfl, rfl⟩
    · refine z_al0 eX12_newName_14 ?_
      refine z_ga eX12_newName_15 fX12_38 zs117 (t := 123) rfl ?_
      refine z_ki eX12_newName_18 ?_
      refine z_il1 eX12_newName_20 ?_
      refine z_iaddN eX12_newName_21 (by omega) (by omega) ?_
      refine zr_lN eX12_newName_22 zs123 (j := 32 + k) (by omega) (by omega) ?_
      rw [eW k (by omega)]
      refine z_al0 eX12_newName_23 ?_
      refine z_gj eX12_newName_24 fX12_155 zs117 ?_
      refine z_lcmp eX12_newName_27 ?_
      refine z_ine eX12_newName_28 rfl (fun c28 => ?_) (fun c28 => ?_)
      · rw [zcmp_ne] at c28
        refine z_incN1 eX12_newName_33 zn2 (by omega) (by omega) ?_
        refine z_goto eX12_newName_36 rfl ?_
        obtain ⟨r2, e1⟩ : ∃ r2, r = r2 + 1 := ⟨r - 1, by omega⟩
        rw [e1, fdF, if_neg (by omega)]
        exact ih r2 (by omega) (k + 1) (by omega)
      · rw [zcmp_ne] at c28
        refine z_il1 eX12_newName_31 ?_
        refine ze_i eX12_newName_32 rfl ?_
        obtain ⟨r2, e1⟩ : ∃ r2, r = r2 + 1 := ⟨r - 1, by omega⟩
        rw [e1, fdF, if_pos (by omega)]
        exact ⟨rfl, rfl⟩
theorem r_newName (h0 h : zHp) (B : Nat → Int) (L q : Nat) (D W : Nat → Int) (ht : Int) (M : mQ h0 B L q D W ht h) (hd : dN D) (k1 : tkK B L q = 1) (w0 : ¬ tkW B L q = 0) : zCi mX12_newName 0 [zA 117] h (fun v h' => fdF W (tkW B L q) (nN D) 0 = v ∧ h = h') := by
  refine z_enter [zA 117, zU] (by decide +kernel) (Nat.le_of_ble_eq_true rfl) rfl (fun hra hrg => ?_)
  refine z_ki eX12_newName_0 ?_
  refine z_is1 eX12_newName_1 zn2 ?_
  have hn := nN_dN hd
  exact r_nn_l h W _ (nN D) hn.2.1 ((M.c 0 (by omega)).trans hn.1) M.w ((M.T.2.2.1 k1).2 w0).1 (nN D) 0 (by omega)
/-- the reference after a row of names: a fault, or it stands ahead of what should be a sign -/
def rowM (h0 : zHp) (B : Nat → Int) (L N b q0 : Nat) (D W : Nat → Int) (ht : Int) (R : Rh) (h : zHp) : Prop := (∃ (k : Int) (a : Nat), R = .inl (k, a) ∧ mXs h0 k a h) ∨ (∃ (q : Nat) (D2 : Nat → Int), q0 ≤ q ∧ mQ h0 B L q D2 W ht h ∧ (∀ j : Nat, ¬ (b ≤ j ∧ j < b + 9) → D2 j = D j) ∧ (tkK B L q = 3 → R = .inr (tkE B L q, D2, W, ht) ∧ ∀ m : Nat, m < N → 0 ≤ D2 (b + m) ∧ D2 (b + m) < (N : Int)) ∧ (¬ tkK B L q = 3 → R = .inl (fK (tkK B L q) 2, tkA B L q)))
theorem r_row_x (h0 : zHp) (B : Nat → Int) (L N b q0 : Nat) (D0 W : Nat → Int) (ht : Int) (hN : N ≤ 8) (hb9 : 2 ≤ b ∧ b + 9 ≤ 299 ∧ (b + 9 ≤ 241 ∨ 285 ≤ b)) (f i sn q : Nat) (D : Nat → Int) (g : zHp) (hi : 0 < i) (hf : i + f = 9) (hs : sumN (bv sn) N = (i : Int)) (hlt : ∀ m : Nat, m < i → 0 ≤ D (b + m) ∧ D (b + m) < (N : Int)) (M : mQ h0 B L q D W ht g) (h00 : D 0 = (N : Int)) (hq0 : q0 ≤ q) (hag : ∀ j : Nat, ¬ (b ≤ j ∧ j < b + 9) → D j = D0 j) (k1 : ¬ tkK B L q = 1) : zRW mX12_readOrder 3 (0, 0) 7 [zA 117, zI (1200 + b : Nat), zI sn, zI i, zI 0, zU] [] 143 g (zqv (fun h' => rowM h0 B L N b q0 D0 W ht (rowF B L N W b ht f i sn D q) h')) := by
  obtain ⟨f2, ef⟩ : ∃ f2, f = f2 + 1 := by
    have := (sb_all (sn := sn) N).1
    exact ⟨f - 1, by omega⟩
  subst ef
  have sbN := (sb_all (sn := sn) N).1
  have hb := M.hb
  have t14 := M.T.1
  have e0 : g 122 1200 = (N : Int) := (M.c 0 (by omega)).trans h00
  refine z_il4 eX12_readOrder_7 ?_
  refine z_ieq eX12_readOrder_9 rfl (fun c9 => ?_) (fun c9 => ?_)
  · refine z_al0 eX12_readOrder_144 ?_
    refine z_gi eX12_readOrder_145 fX12_201 zs117 ?_
    refine z_ine eX12_readOrder_148 rfl (fun c148 => ?_) (fun c148 => ?_)
    · exact absurd hb c148
    · refine z_al0 eX12_readOrder_151 ?_
      refine z_gi eX12_readOrder_152 fX12_149 zs117 ?_
      refine z_ki eX12_readOrder_155 ?_
      refine z_cne eX12_readOrder_156 rfl (fun c156 => ?_) (fun c156 => ?_)
      · refine ze_v eX12_readOrder_181 rfl ?_
        exact Or.inr ⟨q, D, hq0, M, hag, fun z => absurd (t14.trans z) c156, fun z => rowF_2 (fun y => z y.1) (fun y => k1 y.k)⟩
      · refine z_il3 eX12_readOrder_159 ?_
        refine z_al0 eX12_readOrder_160 ?_
        refine z_ga eX12_readOrder_161 fX12_35 zs117 (t := 122) rfl ?_
        refine z_ki eX12_readOrder_164 ?_
        refine zr_iN eX12_readOrder_167 zs122 (j := 1200) (by omega) (by omega) ?_
        refine z_cge eX12_readOrder_168 rfl (fun c168 => ?_) (fun c168 => ?_)
        · refine ze_v eX12_readOrder_181 rfl ?_
          exact Or.inr ⟨q, D, hq0, M, hag, fun z => ⟨rowF_e ⟨z, hi⟩ (by omega), fun m hm => hlt m (by omega)⟩, fun z => absurd (t14.symm.trans c156) z⟩
        · refine z_al0 eX12_readOrder_171 ?_
          refine z_ki eX12_readOrder_172 ?_
          refine z_al0 eX12_readOrder_174 ?_
          refine z_gi eX12_readOrder_175 fX12_143 zs117 ?_
          rw [M.T.2.1]
          refine zc_vv2 eX12_readOrder_178 lX12_207 tX12_fail zs117 (by decide) (Nat.le_of_ble_eq_true rfl) (M.fail 8 (by decide)) ?_
          rintro g1 X1
          refine ze_v eX12_readOrder_181 rfl ?_
          exact Or.inl ⟨8, tkA B L q, rowF_8 ⟨by omega, hi⟩ (by omega), X1⟩
  · exact absurd rfl c9
theorem r_row_l (h0 : zHp) (B : Nat → Int) (L N b q0 : Nat) (D0 W : Nat → Int) (ht : Int) (hN : N ≤ 8) (hb9 : 2 ≤ b ∧ b + 9 ≤ 299 ∧ (b + 9 ≤ 241 ∨ 285 ≤ b)) : ∀ (f i sn q : Nat) (D : Nat → Int) (g : zHp), i + f = 9 → sumN (bv sn) N = (i : Int) → sn < 256 → (∀ m : Nat, m < i → 0 ≤ D (b + m) ∧ D (b + m) < (N : Int)) → mQ h0 B L q D W ht g → D 0 = (N : Int) → q0 ≤ q → (∀ j : Nat, ¬ (b ≤ j ∧ j < b + 9) → D j = D0 j) → (tkK B L q = 1 ∨ i = 0) → dN D → zRW mX12_readOrder 3 (0, 0) 7 [zA 117, zI (1200 + b : Nat), zI sn, zI i, zI 1, zU] [] 143 g (zqv (fun h' => rowM h0 B L N b q0 D0 W ht (rowF B L N W b ht f i sn D q) h')) := by
  intro f
  induction f with
  | zero =>
    intro i sn q D g hf hs
    have := (sb_all (sn := sn) N).1
    omega
  | succ f ih =>
    intro i sn q D g hf hs hs2 hlt M h00 hq0 hag k1 hd
    have sbN := (sb_all (sn := sn) N).1
    have hb := M.hb
    have t14 := M.T.1
    have kb := tk_b (B := B) M.hq
    have enN : nN D = N := by unfold nN; omega
    refine z_il4 eX12_readOrder_7 ?_
    refine z_ieq eX12_readOrder_9 rfl (fun c9 => ?_) (fun c9 => ?_)
    · exact absurd c9 (by decide)
    · refine z_al0 eX12_readOrder_12 ?_
      refine z_gi eX12_readOrder_13 fX12_201 zs117 ?_
      refine z_ine eX12_readOrder_16 rfl (fun c16 => ?_) (fun c16 => ?_)
      · exact absurd hb c16
      · refine z_al0 eX12_readOrder_19 ?_
        refine zc_vi0 eX12_readOrder_20 lX12_228 tX12_isHallName zs117 (by decide) (Nat.le_of_ble_eq_true rfl) (r_isHall _ B L q M.hq M.T) ?_
        rintro _ _ ⟨rfl, rfl⟩ -
        refine z_ine eX12_readOrder_23 rfl (fun c23 => ?_) (fun c23 => ?_)
        · have zn := b01T c23
          refine z_al0 eX12_readOrder_30 ?_
          refine z_gi eX12_readOrder_31 fX12_201 zs117 ?_
          refine z_ine eX12_readOrder_34 rfl (fun c34 => ?_) (fun c34 => ?_)
          · exact absurd hb c34
          · refine z_al0 eX12_readOrder_37 ?_
            refine zc_vi0 eX12_readOrder_38 lX12_231 tX12_newName zs117 (by decide) (Nat.le_of_ble_eq_true rfl) (r_newName h0 g B L q D W ht M hd zn.1 zn.2.1) ?_
            rintro _ _ ⟨rfl, rfl⟩ -
            refine z_goto eX12_readOrder_41 rfl ?_
            refine z_is5 eX12_readOrder_45 zn0 ?_
            rw [enN]
            have fb := fdF_b (W := W) (w := tkW B L q) N 0
            refine z_al0 eX12_readOrder_47 ?_
            refine z_gi eX12_readOrder_48 fX12_201 zs117 ?_
            refine z_ine eX12_readOrder_51 rfl (fun c51 => ?_) (fun c51 => ?_)
            · exact absurd hb c51
            · refine z_il5 eX12_readOrder_54 ?_
              refine z_ige eX12_readOrder_56 rfl (fun c56 => ?_) (fun c56 => ?_)
              · obtain ⟨kk, ek⟩ : ∃ kk : Nat, fdF W (tkW B L q) N 0 = (kk : Int) := ⟨(fdF W (tkW B L q) N 0).toNat, by omega⟩
                rw [ek]
                refine z_al0 eX12_readOrder_68 ?_
                refine z_gi eX12_readOrder_69 fX12_201 zs117 ?_
                refine z_ine eX12_readOrder_72 rfl (fun c72 => ?_) (fun c72 => ?_)
                · exact absurd hb c72
                · refine z_il2 eX12_readOrder_75 ?_
                  refine z_il5 eX12_readOrder_76 ?_
                  refine z_ishr eX12_readOrder_78 ?_
                  refine z_ki eX12_readOrder_79 ?_
                  refine z_iand eX12_readOrder_80 ?_
                  rw [kb_bit (by omega) (by omega)]
                  refine z_ki eX12_readOrder_81 ?_
                  refine z_cne eX12_readOrder_82 rfl (fun c82 => ?_) (fun c82 => ?_)
                  · have zt : ¬ sn.testBit kk = true := fun z => by rw [if_pos z] at c82; exact c82 rfl
                    refine z_al0 eX12_readOrder_94 ?_
                    refine z_gi eX12_readOrder_95 fX12_201 zs117 ?_
                    refine z_ile eX12_readOrder_98 rfl (fun c98 => ?_) (fun c98 => ?_)
                    · refine z_il2 eX12_readOrder_102 ?_
                      refine z_ki eX12_readOrder_103 ?_
                      refine z_il5 eX12_readOrder_104 ?_
                      refine z_ishl eX12_readOrder_106 ?_
                      refine z_ior eX12_readOrder_107 ?_
                      have p7 : 2 ^ kk ≤ 2 ^ 7 := Nat.pow_le_pow_right (by omega) (by omega)
                      rw [kb_shl1 (by omega), kb_or (by omega) (by omega)]
                      refine z_is2 eX12_readOrder_108 zn0 ?_
                      refine z_al0 eX12_readOrder_109 ?_
                      refine z_ga eX12_readOrder_110 fX12_35 zs117 (t := 122) rfl ?_
                      refine z_il1 eX12_readOrder_113 ?_
                      refine z_il3 eX12_readOrder_114 ?_
                      refine z_iaddN eX12_readOrder_115 (by omega) (by omega) ?_
                      refine z_il5 eX12_readOrder_116 ?_
                      refine zs_iN eX12_readOrder_118 zs122 (j := 1200 + b + i) (by omega) (by omega) ?_
                      refine z_incN3 eX12_readOrder_119 zn0 (by omega) (by omega) ?_
                      rw [Nat.add_assoc]
                      have M1 := M.up2 (i := b + i) (kk : Int) (by omega)
                      refine z_al0 eX12_readOrder_122 ?_
                      refine zc_vv0 eX12_readOrder_123 lX12_211 tX12_next zs117 (by decide) (Nat.le_of_ble_eq_true rfl) (M1.next (by have := zn.k; omega)) ?_
                      rintro g2 M2
                      have t14n := M2.T.1
                      refine z_al0 eX12_readOrder_126 ?_
                      refine z_gi eX12_readOrder_127 fX12_149 zs117 ?_
                      refine z_ki eX12_readOrder_130 ?_
                      refine z_cne eX12_readOrder_131 rfl (fun c131 => ?_) (fun c131 => ?_)
                      · refine z_ki eX12_readOrder_138 ?_
                        refine z_is4 eX12_readOrder_139 zn0 ?_
                        refine z_goto eX12_readOrder_141 rfl ?_
                        refine z_fg5 ?_
                        have es : sumN (bv (sn ||| 2 ^ kk)) N = ((i + 1 : Nat) : Int) := by rw [sb_add zt, if_pos (by omega)]; omega
                        have hl2 : ∀ m : Nat, m < i + 1 → 0 ≤ up D (b + i) (kk : Int) (b + m) ∧ up D (b + i) (kk : Int) (b + m) < (N : Int) := fun m hm => by
                          by_cases z : m = i
                          · rw [z, up_at]; omega
                          · rw [up_ne (by omega)]; exact hlt m (by omega)
                        have ha2 : ∀ j : Nat, ¬ (b ≤ j ∧ j < b + 9) → up D (b + i) (kk : Int) j = D0 j := fun j hj => by rw [up_ne (by omega)]; exact hag j hj
                        have h02 : up D (b + i) (kk : Int) 0 = (N : Int) := by rw [up_ne (by omega)]; exact h00
                        rw [rowF_g zn ek zt]
                        exact r_row_x h0 B L N b q0 D0 W ht hN hb9 f (i + 1) (sn ||| 2 ^ kk) (tkE B L q) _ g2 (by omega) (by omega) es hl2 M2 h02 (by omega) ha2 (by omega)
                      · refine z_ki eX12_readOrder_134 ?_
                        refine z_goto eX12_readOrder_135 rfl ?_
                        refine z_is4 eX12_readOrder_139 zn0 ?_
                        refine z_goto eX12_readOrder_141 rfl ?_
                        refine z_fg5 ?_
                        have es : sumN (bv (sn ||| 2 ^ kk)) N = ((i + 1 : Nat) : Int) := by rw [sb_add zt, if_pos (by omega)]; omega
                        have hl2 : ∀ m : Nat, m < i + 1 → 0 ≤ up D (b + i) (kk : Int) (b + m) ∧ up D (b + i) (kk : Int) (b + m) < (N : Int) := fun m hm => by
                          by_cases z : m = i
                          · rw [z, up_at]; omega
                          · rw [up_ne (by omega)]; exact hlt m (by omega)
                        have ha2 : ∀ j : Nat, ¬ (b ≤ j ∧ j < b + 9) → up D (b + i) (kk : Int) j = D0 j := fun j hj => by rw [up_ne (by omega)]; exact hag j hj
                        have h02 : up D (b + i) (kk : Int) 0 = (N : Int) := by rw [up_ne (by omega)]; exact h00
                        rw [rowF_g zn ek zt]
                        exact ih (i + 1) (sn ||| 2 ^ kk) (tkE B L q) _ g2 (by omega) es (Nat.or_lt_two_pow (n := 8) (by omega) (by omega)) hl2 M2 h02 (by omega) ha2 (Or.inl (by omega)) (hd.up (by omega) _)
                    · exfalso; omega
                  · refine z_al0 eX12_readOrder_85 ?_
                    refine z_ki eX12_readOrder_86 ?_
                    refine z_al0 eX12_readOrder_87 ?_
                    refine z_gi eX12_readOrder_88 fX12_143 zs117 ?_
                    rw [M.T.2.1]
                    refine zc_vv2 eX12_readOrder_91 lX12_207 tX12_fail zs117 (by decide) (Nat.le_of_ble_eq_true rfl) (M.fail 5 (by decide)) ?_
                    rintro g1 X1
                    have xb := X1.b
                    have zt : sn.testBit kk = true := by
                      by_cases z : sn.testBit kk = true
                      · exact z
                      · rw [if_neg z] at c82; omega
                    refine z_al0 eX12_readOrder_94 ?_
                    refine z_gi eX12_readOrder_95 fX12_201 zs117 ?_
                    refine z_ile eX12_readOrder_98 rfl (fun c98 => ?_) (fun c98 => ?_)
                    · exfalso; omega
                    · refine ze_v eX12_readOrder_101 rfl ?_
                      exact Or.inl ⟨_, _, rowF_5 zn ek zt, X1⟩
              · refine z_al0 eX12_readOrder_59 ?_
                refine z_ki eX12_readOrder_60 ?_
                refine z_al0 eX12_readOrder_61 ?_
                refine z_gi eX12_readOrder_62 fX12_143 zs117 ?_
                rw [M.T.2.1]
                refine zc_vv2 eX12_readOrder_65 lX12_207 tX12_fail zs117 (by decide) (Nat.le_of_ble_eq_true rfl) (M.fail 3 (by decide)) ?_
                rintro g1 X1
                have xb := X1.b
                refine z_al0 eX12_readOrder_68 ?_
                refine z_gi eX12_readOrder_69 fX12_201 zs117 ?_
                refine z_ine eX12_readOrder_72 rfl (fun c72 => ?_) (fun c72 => ?_)
                · refine z_al0 eX12_readOrder_94 ?_
                  refine z_gi eX12_readOrder_95 fX12_201 zs117 ?_
                  refine z_ile eX12_readOrder_98 rfl (fun c98 => ?_) (fun c98 => ?_)
                  · exfalso; omega
                  · refine ze_v eX12_readOrder_101 rfl ?_
                    exact Or.inl ⟨_, _, rowF_3 zn (by omega), X1⟩
                · exfalso; omega
        · have zn := b01F c23
          refine z_al0 eX12_readOrder_26 ?_
          refine zc_vv0 eX12_readOrder_27 lX12_214 tX12_wrong zs117 (by decide) (Nat.le_of_ble_eq_true rfl) M.wrong ?_
          rintro g1 X1
          have xb := X1.b
          refine z_al0 eX12_readOrder_30 ?_
          refine z_gi eX12_readOrder_31 fX12_201 zs117 ?_
          refine z_ine eX12_readOrder_34 rfl (fun c34 => ?_) (fun c34 => ?_)
          · refine z_ki eX12_readOrder_44 ?_
            refine z_is5 eX12_readOrder_45 zn0 ?_
            refine z_al0 eX12_readOrder_47 ?_
            refine z_gi eX12_readOrder_48 fX12_201 zs117 ?_
            refine z_ine eX12_readOrder_51 rfl (fun c51 => ?_) (fun c51 => ?_)
            · refine z_al0 eX12_readOrder_68 ?_
              refine z_gi eX12_readOrder_69 fX12_201 zs117 ?_
              refine z_ine eX12_readOrder_72 rfl (fun c72 => ?_) (fun c72 => ?_)
              · refine z_al0 eX12_readOrder_94 ?_
                refine z_gi eX12_readOrder_95 fX12_201 zs117 ?_
                refine z_ile eX12_readOrder_98 rfl (fun c98 => ?_) (fun c98 => ?_)
                · exfalso; omega
                · refine ze_v eX12_readOrder_101 rfl ?_
                  exact Or.inl ⟨_, _, rowF_2 (by omega) zn, X1⟩
              · exfalso; omega
            · exfalso; omega
          · exfalso; omega
theorem sb_0 : ∀ N : Nat, sumN (bv 0) N = ((0 : Nat) : Int) := by
  intro N
  induction N with
  | zero => rfl
  | succ N ih =>
    rw [sumN, ih]
    have : bv 0 N = 0 := if_neg (by rw [Nat.zero_testBit]; decide)
    omega
theorem r_row (h0 h : zHp) (B : Nat → Int) (L q : Nat) (D W : Nat → Int) (ht : Int) (M : mQ h0 B L q D W ht h) (hd : dN D) (b : Nat) (hb9 : 2 ≤ b ∧ b + 9 ≤ 299 ∧ (b + 9 ≤ 241 ∨ 285 ≤ b)) : zCv mX12_readOrder 3 [zA 117, zI (1200 + b : Nat)] h (fun h' => rowM h0 B L (nN D) b q D W ht (rowF B L (nN D) W b ht 9 0 0 D q) h') := by
  refine z_enter [zA 117, zI (1200 + b : Nat), zU, zU, zU, zU] (by decide +kernel) (Nat.le_of_ble_eq_true rfl) rfl (fun hra hrg => ?_)
  refine z_ki eX12_readOrder_0 ?_
  refine z_is2 eX12_readOrder_1 zn0 ?_
  refine z_ki eX12_readOrder_2 ?_
  refine z_is3 eX12_readOrder_3 zn0 ?_
  refine z_ki eX12_readOrder_4 ?_
  refine z_is4 eX12_readOrder_5 zn0 ?_
  have hn := nN_dN hd
  exact r_row_l h0 B L (nN D) b q D W ht hn.2.1 hb9 9 0 0 q D h rfl (sb_0 _) (by omega) (fun m hm => by omega) M hn.1 (Nat.le_refl _) (fun j _ => rfl) (Or.inr rfl) hd
theorem r_rowB (h : zHp) (hb : 0 < h 117 12) (c : Int) : zCv mX12_readOrder 3 [zA 117, zI c] h (fun h' => h = h') := by
  refine z_enter [zA 117, zI c, zU, zU, zU, zU] (by decide +kernel) (Nat.le_of_ble_eq_true rfl) rfl (fun hra hrg => ?_)
  refine z_ki eX12_readOrder_0 ?_
  refine z_is2 eX12_readOrder_1 zn0 ?_
  refine z_ki eX12_readOrder_2 ?_
  refine z_is3 eX12_readOrder_3 zn0 ?_
  refine z_ki eX12_readOrder_4 ?_
  refine z_is4 eX12_readOrder_5 zn0 ?_
  refine z_il4 eX12_readOrder_7 ?_
  refine z_ieq eX12_readOrder_9 rfl (fun c9 => ?_) (fun c9 => ?_)
  · exact absurd c9 (by decide)
  · refine z_al0 eX12_readOrder_12 ?_
    refine z_gi eX12_readOrder_13 fX12_201 zs117 ?_
    refine z_ine eX12_readOrder_16 rfl (fun c16 => ?_) (fun c16 => ?_)
    · refine z_al0 eX12_readOrder_144 ?_
      refine z_gi eX12_readOrder_145 fX12_201 zs117 ?_
      refine z_ine eX12_readOrder_148 rfl (fun c148 => ?_) (fun c148 => ?_)
      · refine ze_v eX12_readOrder_181 rfl ?_
        rfl
      · omega
    · omega
