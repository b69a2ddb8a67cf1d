-- the class reads a hall: rows of names (written by wip/tools/specZ5.py)
/-- what a reading of the class leaves as it was: all but the tape's places and the cells lo to hi -/
def xHf (lo hi : Nat) (h g : zHp) : Prop := (∀ c : Nat, ¬ c = 2 → ¬ (lo ≤ c ∧ c ≤ hi) → g c = h c) ∧ g 2 1 = h 2 1
def xTs (lo hi : Nat) (h0 : zHp) (B : Nat → Int) (L : Nat) (h : zHp) : Prop := xHf lo hi h0 h ∧ xB h B L ∧ h 2 8 = 0 ∧ h 2 9 = -1
def xXs (lo hi : Nat) (h0 : zHp) (k : Int) (a : Nat) (h : zHp) : Prop := xHf lo hi h0 h ∧ h 2 8 = k ∧ h 2 9 = (a : Int)
section
variable {lo hi : Nat} {h0 h g : zHp} {B : Nat → Int} {L : Nat}
theorem xTs.fr (S : xTs lo hi h0 B L h) (F : xFr h g) : xTs lo hi h0 B L g := ⟨⟨fun c c1 c2 => (F.1 c c1).trans (S.1.1 c c1 c2), F.2.1.trans S.1.2⟩, S.2.1.fr F, F.2.2.2.1.trans S.2.2.1, F.2.2.2.2.trans S.2.2.2⟩
theorem xTs.bad (S : xTs lo hi h0 B L h) (k : Int) (a : Nat) : xXs lo hi h0 k a (xBad h k a) := ⟨⟨fun c c1 c2 => by unfold xBad; rw [zup_off c1, zup_off c1]; exact S.1.1 c c1 c2, by unfold xBad; rw [zup_ne (by decide), zup_ne (by decide)]; exact S.1.2⟩, by unfold xBad; rw [zup_ne (by decide), zup_at], by unfold xBad; rw [zup_at]⟩
theorem xTs.up (S : xTs lo hi h0 B L h) {c : Nat} (hc : lo ≤ c ∧ c ≤ hi) (hc2 : ¬ c = 2 ∧ ¬ c = 3) (i : Nat) (v : Int) : xTs lo hi h0 B L (zup h c i v) := ⟨⟨fun c1 c2 c3 => by rw [zup_off (fun e => c3 (by omega))]; exact S.1.1 c1 c2 c3, by rw [zup_off (by omega)]; exact S.1.2⟩, ⟨by rw [zup_off (by omega)]; exact S.2.1.1, S.2.1.2.1, fun j hj => by rw [zup_off (by omega)]; exact S.2.1.2.2 j hj⟩, by rw [zup_off (by omega)]; exact S.2.2.1, by rw [zup_off (by omega)]; exact S.2.2.2⟩
theorem xTk.up {q : Nat} (T : xTk B L q h) {c : Nat} (hc : ¬ c = 2) (i : Nat) (v : Int) : xTk B L q (zup h c i v) := by
  unfold xTk at T ⊢
  rw [zup_off (by omega)]
  exact T
end
theorem fK_1 {k n : Int} (h : ¬ k = 4) : fK k n = n := if_neg h
/-- a row of the names 0 .. N - 1 and its places -/
def rowI (N : Nat) (r pl : Nat → Int) (b : Nat) : Prop := ∀ k : Nat, k < N → (0 ≤ r (b + k) ∧ r (b + k) < (N : Int)) ∧ (0 ≤ pl (b + k) ∧ pl (b + k) < (N : Int)) ∧ r (b + (pl (b + k)).toNat) = (k : Int) ∧ pl (b + (r (b + k)).toNat) = (k : Int)
theorem rowI.cg {N : Nat} {r pl r2 pl2 : Nat → Int} {b : Nat} (H : rowI N r pl b) (e : ∀ i : Nat, b ≤ i → i < b + N → r2 i = r i ∧ pl2 i = pl i) : rowI N r2 pl2 b := fun k hk => by
  have q := H k hk
  rw [(e (b + k) (by omega) (by omega)).1, (e (b + k) (by omega) (by omega)).2, (e (b + (pl (b + k)).toNat) (by omega) (by omega)).1, (e (b + (r (b + k)).toNat) (by omega) (by omega)).2]
  exact q
theorem x_fd_l (h : zHp) (W : Nat → Int) (N : Nat) (hN : N ≤ 8) (e0 : h 14 0 = (N : Int)) (eW : ∀ k : Nat, k < N → h 15 k = W k) (w : Int) : ∀ (r k : Nat), k + r = N → zRW mX5_find 0 (0, 0) 2 [zA 14, zJ w, zU, zI k] [] 143 h (zqi (fun v h' => fdF W w r k = v ∧ h = h')) := by
  intro r
  induction r using Nat.strongRecOn with
  | ind r ih =>
    intro k hk
    refine z_il3 eX5_find_2 ?_
    refine z_al0 eX5_find_3 ?_
    refine z_gi eX5_find_4 fX5_40 zs14 ?_
    refine z_cge eX5_find_7 rfl (fun c7 => ?_) (fun c7 => ?_)
    · refine z_ki eX5_find_29 ?_
      refine ze_i eX5_find_30 rfl ?_
      have e1 : r = 0 := by omega
      rw [e1]
      exact ⟨rfl, rfl⟩
    · refine z_al0 eX5_find_10 ?_
      refine z_ga eX5_find_11 fX5_9 zs14 (t := 15) rfl ?_
      refine z_il3 eX5_find_14 ?_
      refine zr_lN eX5_find_15 zs15 (j := k) (by omega) (by omega) ?_
      rw [eW k (by omega)]
      refine z_ll1 eX5_find_16 ?_
      refine z_lcmp eX5_find_17 ?_
      refine z_ine eX5_find_18 rfl (fun c18 => ?_) (fun c18 => ?_)
      · rw [zcmp_ne] at c18
        refine z_incN3 eX5_find_23 zn9 (by omega) (by omega) ?_
        refine z_goto eX5_find_26 rfl ?_
        obtain ⟨r2, e1⟩ : ∃ r2, r = r2 + 1 := ⟨r - 1, by omega⟩
        rw [e1, fdF, if_neg (by omega)]
        exact ih r2 (by omega) (k + 1) (by omega)
      · rw [zcmp_ne] at c18
        refine z_il3 eX5_find_21 ?_
        refine ze_i eX5_find_22 rfl ?_
        obtain ⟨r2, e1⟩ : ∃ r2, r = r2 + 1 := ⟨r - 1, by omega⟩
        rw [e1, fdF, if_pos (by omega)]
        exact ⟨rfl, rfl⟩
theorem x_fd (h : zHp) (W : Nat → Int) (N : Nat) (hN : N ≤ 8) (e0 : h 14 0 = (N : Int)) (eW : ∀ k : Nat, k < N → h 15 k = W k) (w : Int) : zCi mX5_find 0 [zA 14, zJ w] h (fun v h' => fdF W w N 0 = v ∧ h = h') := by
  refine z_enter [zA 14, zJ w, zU, zU] (by decide +kernel) (Nat.le_of_ble_eq_true rfl) rfl (fun hra hrg => ?_)
  refine z_ki eX5_find_0 ?_
  refine z_is3 eX5_find_1 zn9 ?_
  exact x_fd_l h W N hN e0 eW w N 0 (by omega)
/-- the class after a row -/
def xRow (h0 h : zHp) (B : Nat → Int) (L N cr cp b bD q0 : Nat) (D : Nat → Int) (R : Rh) (v : Int) (g : zHp) : Prop := match R with
  | .inl e => (0 : Int) = v ∧ xXs 14 23 h0 e.1 e.2 g
  | .inr s => (1 : Int) = v ∧ q0 < s.1 ∧ s.1 ≤ L ∧ g 2 3 = (s.1 : Int) ∧ xTs 14 23 h0 B L g ∧ (∀ c : Nat, ¬ c = 2 → ¬ c = cr → ¬ c = cp → g c = h c) ∧ (∀ i : Nat, ¬ (b ≤ i ∧ i < b + 8) → g cr i = h cr i ∧ g cp i = h cp i) ∧ rowI N (g cr) (g cp) b ∧ (∀ k : Nat, k < N → g cr (b + k) = s.2.1 (bD + k)) ∧ ∀ j : Nat, ¬ (bD ≤ j ∧ j < bD + 8) → s.2.1 j = D j
def rwI (N sn i : Nat) (r pl : Nat → Int) (b : Nat) : Prop := (∀ m : Nat, m < i → 0 ≤ r (b + m) ∧ r (b + m) < (N : Int) ∧ sn.testBit (r (b + m)).toNat = true ∧ pl (b + (r (b + m)).toNat) = (m : Int)) ∧ ∀ k : Nat, sn.testBit k = true → ∃ m : Nat, m < i ∧ r (b + m) = (k : Int)
theorem rwI_fin {N sn : Nat} {r pl : Nat → Int} {b : Nat} (H : rwI N sn N r pl b) (hs : sumN (bv sn) N = (N : Int)) : rowI N r pl b := fun k hk => by
  obtain ⟨m, hm, em⟩ := H.2 k ((sb_all N).2 hs k hk)
  have q := H.1 m hm
  have q2 := H.1 k hk
  rw [em, Int.toNat_natCast] at q
  refine ⟨⟨q2.1, q2.2.1⟩, by omega, ?_, q2.2.2.2⟩
  rw [q.2.2.2, Int.toNat_natCast]
  exact em
theorem rwI_add {N sn i kk : Nat} {r pl r2 pl2 : Nat → Int} {b : Nat} (H : rwI N sn i r pl b) (hk : kk < N) (zt : ¬ sn.testBit kk = true) (e1 : r2 (b + i) = (kk : Int)) (e2 : ∀ j : Nat, ¬ j = b + i → r2 j = r j) (e3 : pl2 (b + kk) = (i : Int)) (e4 : ∀ j : Nat, ¬ j = b + kk → pl2 j = pl j) : rwI N (sn ||| 2 ^ kk) (i + 1) r2 pl2 b := by
  constructor
  · intro m hm
    by_cases z : m = i
    · rw [z, e1, Int.toNat_natCast, e3, sb_bit]
      refine ⟨by omega, by omega, by simp, rfl⟩
    · have q := H.1 m (by omega)
      rw [e2 (b + m) (by omega), sb_bit, q.2.2.1]
      refine ⟨q.1, q.2.1, by simp, ?_⟩
      rw [e4 _ (fun y => zt ?_)]
      · exact q.2.2.2
      · rw [show kk = (r (b + m)).toNat by omega]; exact q.2.2.1
  · intro k hk2
    rw [sb_bit] at hk2
    by_cases z : kk = k
    · exact ⟨i, by omega, by rw [e1, z]⟩
    · rw [decide_eq_false z, Bool.or_false] at hk2
      obtain ⟨m, hm, em⟩ := H.2 k hk2
      exact ⟨m, by omega, by rw [e2 _ (by omega)]; exact em⟩
theorem rwI.cg {N sn i : Nat} {r pl r2 pl2 : Nat → Int} {b : Nat} (H : rwI N sn i r pl b) (e1 : r2 = r) (e2 : pl2 = pl) : rwI N sn i r2 pl2 b := by rw [e1, e2]; exact H
theorem x_row_l (h0 h : zHp) (B : Nat → Int) (L N cr cp b bD q0 sz : Nat) (D0 W : Nat → Int) (ht : Int) (hN : N ≤ 8) (hc : (cr = 22 ∧ cp = 23 ∧ sz = 160) ∨ (cr = 17 ∧ cp = 18 ∧ sz = 8)) (hcr : zSH[cr]? = some (20, sz)) (hcp : zSH[cp]? = some (20, sz)) (hbz : b + 8 ≤ sz) (e14 : h 14 0 = (N : Int)) (eW : ∀ k : Nat, k < N → h 15 k = W k) : ∀ (f i sn q : Nat) (D : Nat → Int) (g : zHp), i + f = 9 → sumN (bv sn) N = (i : Int) → sn < 256 → rwI N sn i (g cr) (g cp) b → (∀ m : Nat, m < i → g cr (b + m) = D (bD + m)) → xTs 14 23 h0 B L g → g 2 3 = (q : Int) → q ≤ L → q0 ≤ q → (∀ c : Nat, ¬ c = 2 → ¬ c = cr → ¬ c = cp → g c = h c) → (∀ j : Nat, ¬ (b ≤ j ∧ j < b + 8) → g cr j = h cr j ∧ g cp j = h cp j) → (∀ j : Nat, ¬ (bD ≤ j ∧ j < bD + 8) → D j = D0 j) → zRW mX5_readRow 6 (0, 0) 6 [zA 14, zA 2, zA cr, zA cp, zI b, zI sn, zI i, zU] [] 143 g (zqi (fun v h' => xRow h0 h B L N cr cp b bD q0 D0 (rowF B L N W bD ht f i sn D q) v h')) := by
  intro f
  induction f with
  | zero =>
    intro i sn q D g hf hs
    have := (sb_all (sn := sn) N).1
    omega
  | succ f ih =>
    intro i sn q D g hf hs hs2 hrw hD S e3 hq hq0 hfr hfr2 hD0
    have sbN := (sb_all (sn := sn) N).1
    have kb := tk_b (B := B) hq
    refine z_il6 eX5_readRow_6 ?_
    refine z_ki eX5_readRow_8 ?_
    refine z_cgt eX5_readRow_10 rfl (fun c10 => ?_) (fun c10 => ?_)
    · omega
    · refine z_al1 eX5_readRow_13 ?_
      refine zc_vv0 eX5_readRow_14 lX5_75 tX9_advance zs2 (by decide) (Nat.le_of_ble_eq_true rfl) (x_adv g B L S.2.1 q hq e3) ?_
      rintro g1 ⟨F1, T1⟩
      have S1 := S.fr F1
      have e14g : g1 14 0 = (N : Int) := by rw [F1.1 14 (by decide), hfr 14 (by decide) (by omega) (by omega)]; exact e14
      have eWg : ∀ k : Nat, k < N → g1 15 k = W k := fun k hk => by rw [F1.1 15 (by decide), hfr 15 (by decide) (by omega) (by omega)]; exact eW k hk
      have rcr : g1 cr = g cr := F1.1 cr (by omega)
      have rcp : g1 cp = g cp := F1.1 cp (by omega)
      refine z_al1 eX5_readRow_17 ?_
      refine zc_vi0 eX5_readRow_18 lX5_132 tX9_atSign zs2 (by decide) (Nat.le_of_ble_eq_true rfl) (x_atSign _ B L q T1) ?_
      rintro _ _ ⟨rfl, rfl⟩ -
      refine z_ieq eX5_readRow_21 rfl (fun c21 => ?_) (fun c21 => ?_)
      · have z21 := iteF c21
        refine z_al1 eX5_readRow_53 ?_
        refine zc_si1 eX5_readRow_54 lX5_107 tX5_isNameWord (by decide) (Nat.le_of_ble_eq_true rfl) (x_isNameW _ B L S1.2.1 q hq T1) ?_
        rintro _ _ ⟨rfl, rfl⟩ -
        refine z_ine eX5_readRow_57 rfl (fun c57 => ?_) (fun c57 => ?_)
        · have zn := b01T c57
          refine z_al0 eX5_readRow_66 ?_
          refine z_al1 eX5_readRow_67 ?_
          refine z_gj eX5_readRow_68 fX5_110 zs2 ?_
          rw [T1.2.2.1 zn.1]
          refine zc_vi1 eX5_readRow_71 lX5_114 tX5_find zs14 (by decide) (Nat.le_of_ble_eq_true rfl) (x_fd _ W N hN e14g eWg _) ?_
          rintro _ _ ⟨rfl, rfl⟩ -
          have fb := fdF_b (W := W) (w := tkW B L q) N 0
          refine z_is7 eX5_readRow_74 zn0 ?_
          refine z_il7 eX5_readRow_76 ?_
          refine z_ki eX5_readRow_78 ?_
          refine z_cne eX5_readRow_79 rfl (fun c79 => ?_) (fun c79 => ?_)
          · obtain ⟨kk, ek⟩ : ∃ kk : Nat, fdF W (tkW B L q) N 0 = (kk : Int) := ⟨(fdF W (tkW B L q) N 0).toNat, by omega⟩
            rw [ek]
            refine z_il6 eX5_readRow_88 ?_
            refine z_al0 eX5_readRow_90 ?_
            refine z_gi eX5_readRow_91 fX5_40 zs14 ?_
            refine z_cge eX5_readRow_94 rfl (fun c94 => ?_) (fun c94 => ?_)
            · have zt : sn.testBit kk = true := (sb_all N).2 (by omega) kk (by omega)
              refine z_al1 eX5_readRow_107 ?_
              refine z_ki eX5_readRow_108 ?_
              refine zc_vi1 eX5_readRow_109 lX5_103 tX9_refuse zs2 (by decide) (Nat.le_of_ble_eq_true rfl) (x_ref T1 _) ?_
              rintro _ _ ⟨rfl, rfl⟩ -
              refine ze_z eX5_readRow_112 rfl (by first | exact Or.inl rfl | exact Or.inr rfl) ?_
              rw [rowF_5 zn ek zt]
              have := zn.k
              refine ⟨rfl, ?_⟩
              have ef := fK_1 (k := tkK B L q) (n := 5) (by omega)
              rw [ef]
              exact S1.bad _ _
            · refine z_il5 eX5_readRow_97 ?_
              refine z_il7 eX5_readRow_99 ?_
              refine z_ishr eX5_readRow_101 ?_
              refine z_ki eX5_readRow_102 ?_
              refine z_iand eX5_readRow_103 ?_
              rw [kb_bit (by omega) (by omega)]
              refine z_ieq eX5_readRow_104 rfl (fun c104 => ?_) (fun c104 => ?_)
              · have zt : ¬ sn.testBit kk = true := fun z => by rw [if_pos z] at c104; omega
                refine z_il5 eX5_readRow_113 ?_
                refine z_ki eX5_readRow_115 ?_
                refine z_il7 eX5_readRow_116 ?_
                refine z_ishl eX5_readRow_118 ?_
                refine z_ior eX5_readRow_119 ?_
                have p7 : 2 ^ kk ≤ 2 ^ 7 := Nat.pow_le_pow_right (by omega) (by omega)
                rw [kb_shl1 (by omega), kb_or (by omega) (by omega)]
                refine z_is5 eX5_readRow_120 zn0 ?_
                refine z_al2 eX5_readRow_122 ?_
                refine z_il4 eX5_readRow_123 ?_
                refine z_il6 eX5_readRow_125 ?_
                refine z_iaddN eX5_readRow_127 (by omega) (by omega) ?_
                refine z_il7 eX5_readRow_128 ?_
                refine zs_iN eX5_readRow_130 hcr (j := b + i) (by omega) (by omega) ?_
                refine z_al3 eX5_readRow_131 ?_
                refine z_il4 eX5_readRow_132 ?_
                refine z_il7 eX5_readRow_134 ?_
                refine z_iaddN eX5_readRow_136 (by omega) (by omega) ?_
                refine z_il6 eX5_readRow_137 ?_
                refine zs_iN eX5_readRow_139 hcp (j := b + kk) (by omega) (by omega) ?_
                refine z_incN6 eX5_readRow_140 zn0 (by omega) (by omega) ?_
                refine z_goto eX5_readRow_143 rfl ?_
                refine z_fg7 ?_
                have zk := zn.k
                rw [rowF_g zn ek zt]
                refine ih (i + 1) (sn ||| 2 ^ kk) (tkE B L q) _ _ (by omega) (by rw [sb_add zt, if_pos (by omega)]; omega) (Nat.or_lt_two_pow (n := 8) (by omega) (by omega)) (rwI_add hrw (by omega) zt ?_ ?_ ?_ ?_) ?_ ((S1.up (by omega) (by omega) _ _).up (by omega) (by omega) _ _) ?_ kb.2.2.1 (by omega) ?_ ?_ ?_
                · rw [zup_off (by omega), zup_at]
                · intro j hj; rw [zup_off (by omega), zup_ne (by omega), rcr]
                · rw [zup_at]
                · intro j hj; rw [zup_ne (by omega), zup_off (by omega), rcp]
                · intro m hm
                  rw [zup_off (by omega)]
                  by_cases z : m = i
                  · rw [z, zup_at, up_at]
                  · rw [zup_ne (by omega), up_ne (by omega), rcr]; exact hD m (by omega)
                · rw [zup_off (by omega), zup_off (by omega)]; exact T1.2.2.2.2 (by omega)
                · intro c c1 c2 c3; rw [zup_off c3, zup_off c2]; exact (F1.1 c c1).trans (hfr c c1 c2 c3)
                · intro j hj
                  have q2 := hfr2 j hj
                  constructor
                  · rw [zup_off (by omega), zup_ne (by omega), rcr]; exact q2.1
                  · rw [zup_ne (by omega), zup_off (by omega), rcp]; exact q2.2
                · intro j hj; rw [up_ne (by omega)]; exact hD0 j hj
              · have zt : sn.testBit kk = true := by
                  by_cases z : sn.testBit kk = true
                  · exact z
                  · rw [if_neg z] at c104; exact absurd rfl c104
                refine z_al1 eX5_readRow_107 ?_
                refine z_ki eX5_readRow_108 ?_
                refine zc_vi1 eX5_readRow_109 lX5_103 tX9_refuse zs2 (by decide) (Nat.le_of_ble_eq_true rfl) (x_ref T1 _) ?_
                rintro _ _ ⟨rfl, rfl⟩ -
                refine ze_z eX5_readRow_112 rfl (by first | exact Or.inl rfl | exact Or.inr rfl) ?_
                rw [rowF_5 zn ek zt]
                have := zn.k
                refine ⟨rfl, ?_⟩
                have ef := fK_1 (k := tkK B L q) (n := 5) (by omega)
                rw [ef]
                exact S1.bad _ _
          · refine z_al1 eX5_readRow_82 ?_
            refine z_ki eX5_readRow_83 ?_
            refine zc_vi1 eX5_readRow_84 lX5_103 tX9_refuse zs2 (by decide) (Nat.le_of_ble_eq_true rfl) (x_ref T1 _) ?_
            rintro _ _ ⟨rfl, rfl⟩ -
            refine ze_z eX5_readRow_87 rfl (by first | exact Or.inl rfl | exact Or.inr rfl) ?_
            rw [rowF_3 zn (by omega)]
            have := zn.k
            refine ⟨rfl, ?_⟩
            have ef := fK_1 (k := tkK B L q) (n := 3) (by omega)
            rw [ef]
            exact S1.bad _ _
        · have zn := b01F c57
          refine z_al1 eX5_readRow_60 ?_
          refine z_ki eX5_readRow_61 ?_
          refine zc_vi1 eX5_readRow_62 lX5_103 tX9_refuse zs2 (by decide) (Nat.le_of_ble_eq_true rfl) (x_ref T1 _) ?_
          rintro _ _ ⟨rfl, rfl⟩ -
          refine ze_z eX5_readRow_65 rfl (by first | exact Or.inl rfl | exact Or.inr rfl) ?_
          rw [rowF_2 (by omega) zn]
          exact ⟨rfl, S1.bad _ _⟩
      · have z21 := iteT c21
        refine z_il6 eX5_readRow_24 ?_
        refine z_ile eX5_readRow_26 rfl (fun c26 => ?_) (fun c26 => ?_)
        · refine z_al1 eX5_readRow_53 ?_
          refine zc_si1 eX5_readRow_54 lX5_107 tX5_isNameWord (by decide) (Nat.le_of_ble_eq_true rfl) (x_isNameW _ B L S1.2.1 q hq T1) ?_
          rintro _ _ ⟨rfl, rfl⟩ -
          refine z_ine eX5_readRow_57 rfl (fun c57 => ?_) (fun c57 => ?_)
          · have zn := b01T c57
            refine z_al0 eX5_readRow_66 ?_
            refine z_al1 eX5_readRow_67 ?_
            refine z_gj eX5_readRow_68 fX5_110 zs2 ?_
            rw [T1.2.2.1 zn.1]
            refine zc_vi1 eX5_readRow_71 lX5_114 tX5_find zs14 (by decide) (Nat.le_of_ble_eq_true rfl) (x_fd _ W N hN e14g eWg _) ?_
            rintro _ _ ⟨rfl, rfl⟩ -
            have fb := fdF_b (W := W) (w := tkW B L q) N 0
            refine z_is7 eX5_readRow_74 zn0 ?_
            refine z_il7 eX5_readRow_76 ?_
            refine z_ki eX5_readRow_78 ?_
            refine z_cne eX5_readRow_79 rfl (fun c79 => ?_) (fun c79 => ?_)
            · obtain ⟨kk, ek⟩ : ∃ kk : Nat, fdF W (tkW B L q) N 0 = (kk : Int) := ⟨(fdF W (tkW B L q) N 0).toNat, by omega⟩
              rw [ek]
              refine z_il6 eX5_readRow_88 ?_
              refine z_al0 eX5_readRow_90 ?_
              refine z_gi eX5_readRow_91 fX5_40 zs14 ?_
              refine z_cge eX5_readRow_94 rfl (fun c94 => ?_) (fun c94 => ?_)
              · have zt : sn.testBit kk = true := (sb_all N).2 (by omega) kk (by omega)
                refine z_al1 eX5_readRow_107 ?_
                refine z_ki eX5_readRow_108 ?_
                refine zc_vi1 eX5_readRow_109 lX5_103 tX9_refuse zs2 (by decide) (Nat.le_of_ble_eq_true rfl) (x_ref T1 _) ?_
                rintro _ _ ⟨rfl, rfl⟩ -
                refine ze_z eX5_readRow_112 rfl (by first | exact Or.inl rfl | exact Or.inr rfl) ?_
                rw [rowF_5 zn ek zt]
                have := zn.k
                refine ⟨rfl, ?_⟩
                have ef := fK_1 (k := tkK B L q) (n := 5) (by omega)
                rw [ef]
                exact S1.bad _ _
              · refine z_il5 eX5_readRow_97 ?_
                refine z_il7 eX5_readRow_99 ?_
                refine z_ishr eX5_readRow_101 ?_
                refine z_ki eX5_readRow_102 ?_
                refine z_iand eX5_readRow_103 ?_
                rw [kb_bit (by omega) (by omega)]
                refine z_ieq eX5_readRow_104 rfl (fun c104 => ?_) (fun c104 => ?_)
                · have zt : ¬ sn.testBit kk = true := fun z => by rw [if_pos z] at c104; omega
                  refine z_il5 eX5_readRow_113 ?_
                  refine z_ki eX5_readRow_115 ?_
                  refine z_il7 eX5_readRow_116 ?_
                  refine z_ishl eX5_readRow_118 ?_
                  refine z_ior eX5_readRow_119 ?_
                  have p7 : 2 ^ kk ≤ 2 ^ 7 := Nat.pow_le_pow_right (by omega) (by omega)
                  rw [kb_shl1 (by omega), kb_or (by omega) (by omega)]
                  refine z_is5 eX5_readRow_120 zn0 ?_
                  refine z_al2 eX5_readRow_122 ?_
                  refine z_il4 eX5_readRow_123 ?_
                  refine z_il6 eX5_readRow_125 ?_
                  refine z_iaddN eX5_readRow_127 (by omega) (by omega) ?_
                  refine z_il7 eX5_readRow_128 ?_
                  refine zs_iN eX5_readRow_130 hcr (j := b + i) (by omega) (by omega) ?_
                  refine z_al3 eX5_readRow_131 ?_
                  refine z_il4 eX5_readRow_132 ?_
                  refine z_il7 eX5_readRow_134 ?_
                  refine z_iaddN eX5_readRow_136 (by omega) (by omega) ?_
                  refine z_il6 eX5_readRow_137 ?_
                  refine zs_iN eX5_readRow_139 hcp (j := b + kk) (by omega) (by omega) ?_
                  refine z_incN6 eX5_readRow_140 zn0 (by omega) (by omega) ?_
                  refine z_goto eX5_readRow_143 rfl ?_
                  refine z_fg7 ?_
                  have zk := zn.k
                  rw [rowF_g zn ek zt]
                  refine ih (i + 1) (sn ||| 2 ^ kk) (tkE B L q) _ _ (by omega) (by rw [sb_add zt, if_pos (by omega)]; omega) (Nat.or_lt_two_pow (n := 8) (by omega) (by omega)) (rwI_add hrw (by omega) zt ?_ ?_ ?_ ?_) ?_ ((S1.up (by omega) (by omega) _ _).up (by omega) (by omega) _ _) ?_ kb.2.2.1 (by omega) ?_ ?_ ?_
                  · rw [zup_off (by omega), zup_at]
                  · intro j hj; rw [zup_off (by omega), zup_ne (by omega), rcr]
                  · rw [zup_at]
                  · intro j hj; rw [zup_ne (by omega), zup_off (by omega), rcp]
                  · intro m hm
                    rw [zup_off (by omega)]
                    by_cases z : m = i
                    · rw [z, zup_at, up_at]
                    · rw [zup_ne (by omega), up_ne (by omega), rcr]; exact hD m (by omega)
                  · rw [zup_off (by omega), zup_off (by omega)]; exact T1.2.2.2.2 (by omega)
                  · intro c c1 c2 c3; rw [zup_off c3, zup_off c2]; exact (F1.1 c c1).trans (hfr c c1 c2 c3)
                  · intro j hj
                    have q2 := hfr2 j hj
                    constructor
                    · rw [zup_off (by omega), zup_ne (by omega), rcr]; exact q2.1
                    · rw [zup_ne (by omega), zup_off (by omega), rcp]; exact q2.2
                  · intro j hj; rw [up_ne (by omega)]; exact hD0 j hj
                · have zt : sn.testBit kk = true := by
                    by_cases z : sn.testBit kk = true
                    · exact z
                    · rw [if_neg z] at c104; exact absurd rfl c104
                  refine z_al1 eX5_readRow_107 ?_
                  refine z_ki eX5_readRow_108 ?_
                  refine zc_vi1 eX5_readRow_109 lX5_103 tX9_refuse zs2 (by decide) (Nat.le_of_ble_eq_true rfl) (x_ref T1 _) ?_
                  rintro _ _ ⟨rfl, rfl⟩ -
                  refine ze_z eX5_readRow_112 rfl (by first | exact Or.inl rfl | exact Or.inr rfl) ?_
                  rw [rowF_5 zn ek zt]
                  have := zn.k
                  refine ⟨rfl, ?_⟩
                  have ef := fK_1 (k := tkK B L q) (n := 5) (by omega)
                  rw [ef]
                  exact S1.bad _ _
            · refine z_al1 eX5_readRow_82 ?_
              refine z_ki eX5_readRow_83 ?_
              refine zc_vi1 eX5_readRow_84 lX5_103 tX9_refuse zs2 (by decide) (Nat.le_of_ble_eq_true rfl) (x_ref T1 _) ?_
              rintro _ _ ⟨rfl, rfl⟩ -
              refine ze_z eX5_readRow_87 rfl (by first | exact Or.inl rfl | exact Or.inr rfl) ?_
              rw [rowF_3 zn (by omega)]
              have := zn.k
              refine ⟨rfl, ?_⟩
              have ef := fK_1 (k := tkK B L q) (n := 3) (by omega)
              rw [ef]
              exact S1.bad _ _
          · have zn := b01F c57
            refine z_al1 eX5_readRow_60 ?_
            refine z_ki eX5_readRow_61 ?_
            refine zc_vi1 eX5_readRow_62 lX5_103 tX9_refuse zs2 (by decide) (Nat.le_of_ble_eq_true rfl) (x_ref T1 _) ?_
            rintro _ _ ⟨rfl, rfl⟩ -
            refine ze_z eX5_readRow_65 rfl (by first | exact Or.inl rfl | exact Or.inr rfl) ?_
            rw [rowF_2 (by omega) zn]
            exact ⟨rfl, S1.bad _ _⟩
        · refine z_il6 eX5_readRow_29 ?_
          refine z_al0 eX5_readRow_31 ?_
          refine z_gi eX5_readRow_32 fX5_40 zs14 ?_
          refine z_ceq eX5_readRow_35 rfl (fun c35 => ?_) (fun c35 => ?_)
          · refine z_ki eX5_readRow_47 ?_
            refine z_goto eX5_readRow_48 rfl ?_
            refine ze_z eX5_readRow_52 rfl (by first | exact Or.inl rfl | exact Or.inr rfl) ?_
            rw [rowF_e (by omega) (by omega)]
            have ei : i = N := by omega
            subst ei
            refine ⟨rfl, ?_, kb.2.2.1, T1.2.2.2.2 (by omega), S1, fun c c1 c2 c3 => (F1.1 c c1).trans (hfr c c1 c2 c3), fun j hj => by rw [rcr, rcp]; exact hfr2 j hj, ?_, fun k hk => by rw [rcr]; exact hD k hk, hD0⟩
            · show q0 < tkE B L q
              have := kb.2.2.2.1 (by omega)
              omega
            · rw [rcr, rcp]
              exact rwI_fin hrw hs
          · refine z_al1 eX5_readRow_38 ?_
            refine z_ki eX5_readRow_39 ?_
            refine zc_vi1 eX5_readRow_41 lX5_103 tX9_refuse zs2 (by decide) (Nat.le_of_ble_eq_true rfl) (x_ref T1 _) ?_
            rintro _ _ ⟨rfl, rfl⟩ -
            refine z_ieq eX5_readRow_44 rfl (fun c44 => ?_) (fun c44 => ?_)
            · refine z_ki eX5_readRow_51 ?_
              refine ze_z eX5_readRow_52 rfl (by first | exact Or.inl rfl | exact Or.inr rfl) ?_
              rw [rowF_8 (by omega) (by omega)]
              refine ⟨rfl, ?_⟩
              have ef := fK_1 (k := tkK B L q) (n := 8) (by omega)
              rw [ef]
              exact S1.bad _ _
            · exact absurd rfl c44
theorem x_row (h0 h : zHp) (B : Nat → Int) (L N cr cp b bD q0 sz : Nat) (D0 W : Nat → Int) (ht : Int) (hN : N ≤ 8) (hc : (cr = 22 ∧ cp = 23 ∧ sz = 160) ∨ (cr = 17 ∧ cp = 18 ∧ sz = 8)) (hcr : zSH[cr]? = some (20, sz)) (hcp : zSH[cp]? = some (20, sz)) (hbz : b + 8 ≤ sz) (e14 : h 14 0 = (N : Int)) (eW : ∀ k : Nat, k < N → h 15 k = W k) (q : Nat) (S : xTs 14 23 h0 B L h) (e3 : h 2 3 = (q : Int)) (hq : q ≤ L) (hq0 : q0 ≤ q) : zCi mX5_readRow 6 [zA 14, zA 2, zA cr, zA cp, zI b] h (fun v h' => xRow h0 h B L N cr cp b bD q0 D0 (rowF B L N W bD ht 9 0 0 D0 q) v h') := by
  refine z_enter [zA 14, zA 2, zA cr, zA cp, zI b, zU, zU, zU] (by decide +kernel) (Nat.le_of_ble_eq_true rfl) rfl (fun hra hrg => ?_)
  refine z_ki eX5_readRow_0 ?_
  refine z_is5 eX5_readRow_1 zn0 ?_
  refine z_ki eX5_readRow_3 ?_
  refine z_is6 eX5_readRow_4 zn0 ?_
  exact x_row_l h0 h B L N cr cp b bD q0 sz D0 W ht hN hc hcr hcp hbz e14 eW 9 0 0 q D0 h rfl (sb_0 _) (by omega) ⟨fun m hm => by omega, fun k hk => by rw [Nat.zero_testBit] at hk; cases hk⟩ (fun m hm => by omega) S e3 hq hq0 (fun _ _ _ _ => rfl) (fun _ _ => ⟨rfl, rfl⟩) (fun _ _ => rfl)
