-- the class reads a name (written by wip/tools/specZ6.py)
def soI (h : zHp) (D : Nat → Int) (s : Nat) : Prop := h 19 s = D (20 + s) ∧ h 20 s = D (40 + s) ∧ h 21 s = D (60 + s) ∧ (0 ≤ D (20 + s) ∧ D (20 + s) ≤ 99) ∧ (0 ≤ D (40 + s) ∧ D (40 + s) ≤ 99) ∧ (0 ≤ D (60 + s) ∧ D (60 + s) ≤ 99)
/-- the class's new hall is the numbers D and the words W; the first n names have their costs -/
def hJ (h : zHp) (D W : Nat → Int) (ht : Int) (n m : Nat) : Prop := dN D ∧ (0 ≤ D 2 ∧ D 2 < ((2 ^ m : Nat) : Int)) ∧ (h 14 0 = D 0 ∧ h 14 1 = D 2 ∧ h 14 6 = ht ∧ h 14 7 = D 1) ∧ (ht = 0 ∨ ht = 1) ∧ (∀ k : Nat, k < nN D → h 15 k = W k) ∧ (∀ k : Nat, k < n → h 16 k = D (3 + k) ∧ 0 ≤ D (3 + k) ∧ D (3 + k) ≤ 99) ∧ (∀ s : Nat, s < nS D → soI h D s) ∧ (∀ s : Nat, s < nS D → rowI (nN D) (h 22) (h 23) (8 * s) ∧ ∀ k : Nat, k < nN D → h 22 (8 * s + k) = D (80 + 8 * s + k)) ∧ (ht = 0 → ∀ k : Nat, k < 8 → h 17 k = (k : Int) ∧ h 18 k = (k : Int)) ∧ (ht = 1 → rowI (nN D) (h 17) (h 18) 0 ∧ ∀ k : Nat, k < nN D → D (11 + k) = h 18 k)
def hI (h : zHp) (D W : Nat → Int) (ht : Int) : Prop := hJ h D W ht (nN D) (nN D)
def xRd (h0 : zHp) (B : Nat → Int) (L q0 : Nat) (R : Rh) (v : Int) (g : zHp) : Prop := match R with
  | .inl e => (0 : Int) = v ∧ xXs 14 23 h0 e.1 e.2 g
  | .inr s => (1 : Int) = v ∧ q0 < s.1 ∧ s.1 ≤ L ∧ g 2 3 = (s.1 : Int) ∧ xTs 14 23 h0 B L g ∧ hI g s.2.1 s.2.2.1 s.2.2.2
section
variable {h g : zHp} {D W : Nat → Int} {ht : Int} {n m : Nat}
theorem hJ.fr (H : hJ h D W ht n m) (e : ∀ c : Nat, ¬ c = 2 → g c = h c) : hJ g D W ht n m := by
  obtain ⟨h1, h2, h3, h4, h5, h6, h7, h8, h9, h10⟩ := H
  unfold hJ soI
  rw [e 14 (by decide), e 15 (by decide), e 16 (by decide), e 17 (by decide), e 18 (by decide), e 19 (by decide), e 20 (by decide), e 21 (by decide), e 22 (by decide), e 23 (by decide)]
  exact ⟨h1, h2, h3, h4, h5, h6, h7, h8, h9, h10⟩
theorem nN_up {i : Nat} {v : Int} (hi : 2 ≤ i) : nN (up D i v) = nN D ∧ nS (up D i v) = nS D := by
  unfold nN nS
  rw [up_ne (by omega), up_ne (by omega)]
  exact ⟨rfl, rfl⟩
/-- while names are read there is no sort and no row of ties -/
theorem hJ.st (H : hJ h D W 0 n m) (h0 : D 1 = 0) {v : Int} {m2 : Nat} (hv : 0 ≤ v ∧ v < ((2 ^ m2 : Nat) : Int)) : hJ (zup h 14 1 v) (up D 2 v) W 0 n m2 := by
  obtain ⟨h1, h2, h3, h4, h5, h6, h7, h8, h9, h10⟩ := H
  have eS : nS D = 0 := by unfold nS; omega
  unfold hJ
  rw [(nN_up (D := D) (v := v) (by omega : 2 ≤ 2)).1, (nN_up (D := D) (v := v) (by omega : 2 ≤ 2)).2, eS]
  refine ⟨h1.up (by omega) _, by rw [up_at]; exact hv, ⟨?_, ?_, ?_, ?_⟩, Or.inl rfl, fun k hk => by rw [zup_off (by decide)]; exact h5 k hk, fun k hk => ?_, fun s hs => by omega, fun s hs => by omega, fun z k hk => ?_, fun z => by omega⟩
  · rw [zup_ne (by decide), up_ne (by decide)]; exact h3.1
  · rw [zup_at, up_at]
  · rw [zup_ne (by decide)]; exact h3.2.2.1
  · rw [zup_ne (by decide), up_ne (by decide)]; exact h3.2.2.2
  · rw [zup_off (by decide), up_ne (by omega)]; exact h6 k hk
  · rw [zup_off (by decide), zup_off (by decide)]; exact h9 z k hk
theorem hJ.co (H : hJ h D W 0 n m) (h0 : D 1 = 0) {v : Int} {k n2 : Nat} (hv : 0 ≤ v ∧ v ≤ 99) (hk : k < 8) (hn : ∀ j : Nat, j < n2 → j = k ∨ j < n) : hJ (zup h 16 k v) (up D (3 + k) v) W 0 n2 m := by
  obtain ⟨h1, h2, h3, h4, h5, h6, h7, h8, h9, h10⟩ := H
  have eS : nS D = 0 := by unfold nS; omega
  unfold hJ
  rw [(nN_up (D := D) (v := v) (by omega : 2 ≤ 3 + k)).1, (nN_up (D := D) (v := v) (by omega : 2 ≤ 3 + k)).2, eS]
  refine ⟨h1.up (by omega) _, by rw [up_ne (by omega)]; exact h2, ⟨?_, ?_, ?_, ?_⟩, Or.inl rfl, fun k hk => by rw [zup_off (by decide)]; exact h5 k hk, fun j hj => ?_, fun s hs => by omega, fun s hs => by omega, fun z k hk => ?_, fun z => by omega⟩
  · rw [zup_off (by decide), up_ne (by omega)]; exact h3.1
  · rw [zup_off (by decide), up_ne (by omega)]; exact h3.2.1
  · rw [zup_off (by decide)]; exact h3.2.2.1
  · rw [zup_off (by decide), up_ne (by omega)]; exact h3.2.2.2
  · by_cases z : j = k
    · rw [z, zup_at, up_at]; exact ⟨rfl, hv⟩
    · rw [zup_ne (by omega), up_ne (by omega)]
      exact h6 j (by have := hn j hj; omega)
  · rw [zup_off (by decide), zup_off (by decide)]; exact h9 z k hk
theorem or_b {x k : Nat} (hx : x < 2 ^ k) : x ||| 2 ^ k < 2 ^ (k + 1) := Nat.or_lt_two_pow (Nat.lt_of_lt_of_le hx (Nat.pow_le_pow_right (by omega) (by omega))) (Nat.pow_lt_pow_right (by omega) (by omega))
end
theorem x_no_s (h0 h : zHp) (B : Nat → Int) (L q q0 k : Nat) (D W : Nat → Int) (ht : Int) (S : xTs 14 23 h0 B L h) (T : xTk B L q h) (hq : q ≤ L) (I : hI h D W ht) (hq0 : q0 ≤ q) : zRW mX5_readNameOptions 5 (0, 0) 74 [zA 14, zA 2, zI k] [] 143 h (zqi (fun v h' => xRd h0 B L q0 (sgF B L q D W ht) v h')) := by
  have kb := tk_b (B := B) hq
  refine z_al1 eX5_readNameOptions_74 ?_
  refine zc_vi0 eX5_readNameOptions_75 lX5_132 tX9_atSign zs2 (by decide) (Nat.le_of_ble_eq_true rfl) (x_atSign _ B L q T) ?_
  rintro _ _ ⟨rfl, rfl⟩ -
  refine z_ine eX5_readNameOptions_78 rfl (fun c78 => ?_) (fun c78 => ?_)
  · have z78 := iteT c78
    refine z_ki eX5_readNameOptions_89 ?_
    refine z_goto eX5_readNameOptions_90 rfl ?_
    refine ze_z eX5_readNameOptions_94 rfl (by first | exact Or.inl rfl | exact Or.inr rfl) ?_
    have e : sgF B L q D W ht = .inr (tkE B L q, D, W, ht) := by unfold sgF; rw [if_pos (sgK_b.2.2 z78)]
    rw [e]
    exact ⟨rfl, by show q0 < tkE B L q; have := kb.2.2.2.1 (by omega); omega, kb.2.2.1, T.2.2.2.2 (by omega), S, I⟩
  · have z78 := iteF c78
    refine z_al1 eX5_readNameOptions_81 ?_
    refine z_ki eX5_readNameOptions_82 ?_
    refine zc_vi1 eX5_readNameOptions_83 lX5_103 tX9_refuse zs2 (by decide) (Nat.le_of_ble_eq_true rfl) (x_ref T _) ?_
    rintro _ _ ⟨rfl, rfl⟩ -
    refine z_ieq eX5_readNameOptions_86 rfl (fun c86 => ?_) (fun c86 => ?_)
    · refine z_ki eX5_readNameOptions_93 ?_
      refine ze_z eX5_readNameOptions_94 rfl (by first | exact Or.inl rfl | exact Or.inr rfl) ?_
      have e : sgF B L q D W ht = .inl (fK (tkK B L q) 2, tkA B L q) := by unfold sgF; rw [if_neg (fun y => z78 (sgK_b.2.1 y))]; unfold sgK; rw [if_neg z78]
      rw [e]
      exact ⟨rfl, S.bad _ _⟩
    · exact absurd rfl c86
theorem up_self {D : Nat → Int} {i : Nat} : up D i (D i) = D := by
  funext j
  unfold up
  by_cases z : j = i
  · rw [if_pos z, z]
  · rw [if_neg z]
theorem hJ.wk2 {h g : zHp} {D W : Nat → Int} {ht : Int} {n m : Nat} (H : hJ h D W ht n m) (e : ∀ c : Nat, ¬ c = 2 → g c = h c) : hJ g D W ht n (m + 1) := by
  have G := H.fr e
  refine ⟨G.1, ⟨G.2.1.1, ?_⟩, G.2.2⟩
  have := G.2.1.2
  have p2 : 2 ^ (m + 1) = 2 ^ m * 2 := Nat.pow_succ _ _
  omega
theorem hJ.toI {h : zHp} {D W : Nat → Int} {ht : Int} {n : Nat} (H : hJ h D W ht n n) (hn : nN D = n) : hI h D W ht := by
  unfold hI
  rw [hn]
  exact H
theorem x_nameOpt (h0 h : zHp) (B : Nat → Int) (L q q0 k : Nat) (D W : Nat → Int) (S : xTs 14 23 h0 B L h) (e3 : h 2 3 = (q : Int)) (hq : q ≤ L) (J : hJ h D W 0 k k) (hk : k < 8) (hD0 : D 0 = (k : Int) + 1) (hD1 : D 1 = 0) (hq0 : q0 ≤ q) : zCi mX5_readNameOptions 5 [zA 14, zA 2, zI k] h (fun v h' => xRd h0 B L q0 (poF B L k q D W 0) v h') := by
  refine z_enter [zA 14, zA 2, zI k] (by decide +kernel) (Nat.le_of_ble_eq_true rfl) rfl (fun hra hrg => ?_)
  have kb := tk_b (B := B) hq
  refine z_al1 eX5_readNameOptions_0 ?_
  refine zc_vv0 eX5_readNameOptions_1 lX5_75 tX9_advance zs2 (by decide) (Nat.le_of_ble_eq_true rfl) (x_adv h B L S.2.1 q hq e3) ?_
  rintro g1 ⟨F1, T1⟩
  have S1 := S.fr F1
  refine z_al1 eX5_readNameOptions_4 ?_
  refine z_ldcS eX5_readNameOptions_5 sX5_122 ?_
  refine zc_vi1 eX5_readNameOptions_7 lX5_86 tX9_at zs2 (by decide) (Nat.le_of_ble_eq_true rfl) (x_at _ B L S1.2.1 q hq T1 1 (by decide)) ?_
  rintro _ _ ⟨rfl, rfl⟩ -
  refine z_ieq eX5_readNameOptions_10 rfl (fun c10 => ?_) (fun c10 => ?_)
  · have z10 := iteF c10
    refine z_al0 eX5_readNameOptions_20 ?_
    refine z_dup eX5_readNameOptions_21 zn2 ?_
    refine z_gi eX5_readNameOptions_22 fX5_44 zs14 ?_
    rw [show g1 14 1 = D 2 from by rw [F1.1 14 (by decide)]; exact J.2.2.1.2.1]
    refine z_ki eX5_readNameOptions_25 ?_
    refine z_il2 eX5_readNameOptions_26 ?_
    refine z_ishl eX5_readNameOptions_27 ?_
    refine z_ior eX5_readNameOptions_28 ?_
    refine z_pi eX5_readNameOptions_29 pX5_44 zs14 ?_
    refine z_al0 eX5_readNameOptions_32 ?_
    refine z_ga eX5_readNameOptions_33 fX5_15 zs14 (t := 16) rfl ?_
    refine z_il2 eX5_readNameOptions_36 ?_
    refine z_ki eX5_readNameOptions_37 ?_
    refine zs_iN eX5_readNameOptions_38 zs16 (j := k) (by omega) (by omega) ?_
    have S3 := (S1.up (c := 14) (by decide) (by decide) 1 (zor (D 2) (zshl 1 k))).up (c := 16) (by decide) (by decide) k 1
    have T3 := (T1.up (c := 14) (by decide) 1 (zor (D 2) (zshl 1 k))).up (c := 16) (by decide) k 1
    have hq3 : q ≤ L := hq
    have J3 : hJ (zup (zup g1 14 1 (zor (D 2) (zshl 1 k))) 16 k 1) (up (up D 2 (zor (D 2) (zshl 1 k))) (3 + k) 1) W 0 (k + 1) (k + 1) := by
      have hz : 0 ≤ zor (D 2) (zshl 1 k) ∧ zor (D 2) (zshl 1 k) < ((2 ^ (k + 1) : Nat) : Int) := by
        have d2 := J.2.1
        have p7 : 2 ^ k ≤ 2 ^ 7 := Nat.pow_le_pow_right (by omega) (by omega)
        obtain ⟨x, hx⟩ : ∃ x : Nat, D 2 = (x : Int) := ⟨(D 2).toNat, by omega⟩
        rw [hx, kb_shl1 (by omega), kb_or (by omega) (by omega)]
        have := or_b (x := x) (k := k) (by omega)
        omega
      exact ((J.fr F1.1).st hD1 hz).co (by rw [up_ne (by decide)]; exact hD1) (by omega) hk (fun j hj => by omega)
    have kb3 := tk_b (B := B) hq3
    refine z_al1 eX5_readNameOptions_39 ?_
    refine z_ldcS eX5_readNameOptions_40 sX5_124 ?_
    refine zc_vi1 eX5_readNameOptions_42 lX5_86 tX9_at zs2 (by decide) (Nat.le_of_ble_eq_true rfl) (x_at _ B L S3.2.1 _ hq3 T3 2 (by decide)) ?_
    rintro _ _ ⟨rfl, rfl⟩ -
    refine z_ieq eX5_readNameOptions_45 rfl (fun c45 => ?_) (fun c45 => ?_)
    · have z45 := iteF c45
      have eN : poF B L k q D W 0 = sgF B L q (up (up D 2 (zor (D 2) (zshl 1 k))) (3 + k) 1) W 0 := by unfold poF coF; rw [if_neg z10, if_neg z45]
      rw [eN]
      refine x_no_s h0 _ B L _ q0 k _ W 0 S3 T3 hq3 ?_ (by omega)
      refine hJ.toI (n := k + 1) J3 ?_
      unfold nN
      rw [up_ne (by omega), up_ne (by decide)]
      omega
    · have z45 := iteT c45
      refine z_al1 eX5_readNameOptions_48 ?_
      refine z_ki eX5_readNameOptions_49 ?_
      refine z_ki eX5_readNameOptions_50 ?_
      refine zc_vi2 eX5_readNameOptions_52 lX5_126 tX9_expectNumber zs2 (by decide) (Nat.le_of_ble_eq_true rfl) (x_expNumber _ B L S3.2.1 _ kb3.2.2.1 (T3.2.2.2.2 (by omega)) _ _) ?_
      rintro v1 g4 ⟨g5, F5, T5, p1, p2⟩ -
      refine z_ine eX5_readNameOptions_55 rfl (fun c55 => ?_) (fun c55 => ?_)
      · have z9 : nuK B L (tkE B L q) 0 99 = 0 := by
          by_cases z : nuK B L (tkE B L q) 0 99 = 0
          · exact z
          · exact absurd (p2 z).1.symm c55
        obtain ⟨-, rfl⟩ := p1 z9
        have k2 := nuK_b.2.1 z9
        have kb5 := tk_b (B := B) kb3.2.2.1
        refine z_al0 eX5_readNameOptions_60 ?_
        refine z_ga eX5_readNameOptions_61 fX5_15 zs14 (t := 16) rfl ?_
        refine z_il2 eX5_readNameOptions_64 ?_
        refine z_al1 eX5_readNameOptions_65 ?_
        refine z_gi eX5_readNameOptions_66 fX5_129 zs2 ?_
        rw [T5.2.2.2.1 k2.1]
        refine zs_iN eX5_readNameOptions_69 zs16 (j := k) (by omega) (by omega) ?_
        have S6 := (S3.fr F5).up (c := 16) (by decide) (by decide) k (tkV B L (tkE B L q))
        have e36 : zup g5 16 k (tkV B L (tkE B L q)) 2 3 = ((tkE B L (tkE B L q) : Nat) : Int) := by rw [zup_off (by decide)]; exact T5.2.2.2.2 (by omega)
        refine z_al1 eX5_readNameOptions_70 ?_
        refine zc_vv0 eX5_readNameOptions_71 lX5_75 tX9_advance zs2 (by decide) (Nat.le_of_ble_eq_true rfl) (x_adv _ B L S6.2.1 _ kb5.2.2.1 e36) ?_
        rintro g7 ⟨F7, T7⟩
        have eN : poF B L k q D W 0 = sgF B L (tkE B L (tkE B L q)) (up (up (up D 2 (zor (D 2) (zshl 1 k))) (3 + k) 1) (3 + k) (tkV B L (tkE B L q))) W 0 := by unfold poF coF; rw [if_neg z10, if_pos z45, if_pos z9]
        rw [eN]
        refine x_no_s h0 g7 B L _ q0 k _ W 0 (S6.fr F7) T7 kb5.2.2.1 ?_ (by omega)
        refine hJ.toI (n := k + 1) (((J3.fr F5.1).co (by rw [up_ne (by omega), up_ne (by decide)]; exact hD1) (by omega) hk (fun j hj => Or.inr hj)).fr F7.1) ?_
        unfold nN
        rw [up_ne (by omega), up_ne (by omega), up_ne (by decide)]
        omega
      · have z9 : ¬ nuK B L (tkE B L q) 0 99 = 0 := fun z => by have := (p1 z).1; omega
        obtain ⟨-, rfl⟩ := p2 z9
        refine z_ki eX5_readNameOptions_58 ?_
        refine ze_z eX5_readNameOptions_59 rfl (by first | exact Or.inl rfl | exact Or.inr rfl) ?_
        have eN : poF B L k q D W 0 = .inl (nuK B L (tkE B L q) 0 99, tkA B L (tkE B L q)) := by unfold poF coF; rw [if_neg z10, if_pos z45, if_neg z9]
        rw [eN]
        exact ⟨rfl, (S3.fr F5).bad _ _⟩
  · have z10 := iteT c10
    refine z_al1 eX5_readNameOptions_13 ?_
    refine zc_vv0 eX5_readNameOptions_14 lX5_75 tX9_advance zs2 (by decide) (Nat.le_of_ble_eq_true rfl) (x_adv g1 B L S1.2.1 _ kb.2.2.1 (T1.2.2.2.2 (by omega))) ?_
    rintro g2 ⟨F2, T2⟩
    have S2 := S1.fr F2
    refine z_goto eX5_readNameOptions_17 rfl ?_
    refine z_al0 eX5_readNameOptions_32 ?_
    refine z_ga eX5_readNameOptions_33 fX5_15 zs14 (t := 16) rfl ?_
    refine z_il2 eX5_readNameOptions_36 ?_
    refine z_ki eX5_readNameOptions_37 ?_
    refine zs_iN eX5_readNameOptions_38 zs16 (j := k) (by omega) (by omega) ?_
    have S3 := S2.up (c := 16) (by decide) (by decide) k 1
    have T3 := T2.up (c := 16) (by decide) k 1
    have hq3 : tkE B L q ≤ L := kb.2.2.1
    have J3 : hJ (zup g2 16 k 1) (up (up D 2 (D 2)) (3 + k) 1) W 0 (k + 1) (k + 1) := by
      have J2 : hJ g2 (up D 2 (D 2)) W 0 k (k + 1) := by
        have eu : up D 2 (D 2) = D := up_self
        rw [eu]
        exact J.wk2 (fun c hc => (F2.1 c hc).trans (F1.1 c hc))
      exact J2.co (by rw [up_ne (by decide)]; exact hD1) (by omega) hk (fun j hj => by omega)
    have kb3 := tk_b (B := B) hq3
    refine z_al1 eX5_readNameOptions_39 ?_
    refine z_ldcS eX5_readNameOptions_40 sX5_124 ?_
    refine zc_vi1 eX5_readNameOptions_42 lX5_86 tX9_at zs2 (by decide) (Nat.le_of_ble_eq_true rfl) (x_at _ B L S3.2.1 _ hq3 T3 2 (by decide)) ?_
    rintro _ _ ⟨rfl, rfl⟩ -
    refine z_ieq eX5_readNameOptions_45 rfl (fun c45 => ?_) (fun c45 => ?_)
    · have z45 := iteF c45
      have eN : poF B L k q D W 0 = sgF B L (tkE B L q) (up (up D 2 (D 2)) (3 + k) 1) W 0 := by unfold poF coF; rw [if_pos z10, if_neg z45]
      rw [eN]
      refine x_no_s h0 _ B L _ q0 k _ W 0 S3 T3 hq3 ?_ (by omega)
      refine hJ.toI (n := k + 1) J3 ?_
      unfold nN
      rw [up_ne (by omega), up_ne (by decide)]
      omega
    · have z45 := iteT c45
      refine z_al1 eX5_readNameOptions_48 ?_
      refine z_ki eX5_readNameOptions_49 ?_
      refine z_ki eX5_readNameOptions_50 ?_
      refine zc_vi2 eX5_readNameOptions_52 lX5_126 tX9_expectNumber zs2 (by decide) (Nat.le_of_ble_eq_true rfl) (x_expNumber _ B L S3.2.1 _ kb3.2.2.1 (T3.2.2.2.2 (by omega)) _ _) ?_
      rintro v1 g4 ⟨g5, F5, T5, p1, p2⟩ -
      refine z_ine eX5_readNameOptions_55 rfl (fun c55 => ?_) (fun c55 => ?_)
      · have z9 : nuK B L (tkE B L (tkE B L q)) 0 99 = 0 := by
          by_cases z : nuK B L (tkE B L (tkE B L q)) 0 99 = 0
          · exact z
          · exact absurd (p2 z).1.symm c55
        obtain ⟨-, rfl⟩ := p1 z9
        have k2 := nuK_b.2.1 z9
        have kb5 := tk_b (B := B) kb3.2.2.1
        refine z_al0 eX5_readNameOptions_60 ?_
        refine z_ga eX5_readNameOptions_61 fX5_15 zs14 (t := 16) rfl ?_
        refine z_il2 eX5_readNameOptions_64 ?_
        refine z_al1 eX5_readNameOptions_65 ?_
        refine z_gi eX5_readNameOptions_66 fX5_129 zs2 ?_
        rw [T5.2.2.2.1 k2.1]
        refine zs_iN eX5_readNameOptions_69 zs16 (j := k) (by omega) (by omega) ?_
        have S6 := (S3.fr F5).up (c := 16) (by decide) (by decide) k (tkV B L (tkE B L (tkE B L q)))
        have e36 : zup g5 16 k (tkV B L (tkE B L (tkE B L q))) 2 3 = ((tkE B L (tkE B L (tkE B L q)) : Nat) : Int) := by rw [zup_off (by decide)]; exact T5.2.2.2.2 (by omega)
        refine z_al1 eX5_readNameOptions_70 ?_
        refine zc_vv0 eX5_readNameOptions_71 lX5_75 tX9_advance zs2 (by decide) (Nat.le_of_ble_eq_true rfl) (x_adv _ B L S6.2.1 _ kb5.2.2.1 e36) ?_
        rintro g7 ⟨F7, T7⟩
        have eN : poF B L k q D W 0 = sgF B L (tkE B L (tkE B L (tkE B L q))) (up (up (up D 2 (D 2)) (3 + k) 1) (3 + k) (tkV B L (tkE B L (tkE B L q)))) W 0 := by unfold poF coF; rw [if_pos z10, if_pos z45, if_pos z9]
        rw [eN]
        refine x_no_s h0 g7 B L _ q0 k _ W 0 (S6.fr F7) T7 kb5.2.2.1 ?_ (by omega)
        refine hJ.toI (n := k + 1) (((J3.fr F5.1).co (by rw [up_ne (by omega), up_ne (by decide)]; exact hD1) (by omega) hk (fun j hj => Or.inr hj)).fr F7.1) ?_
        unfold nN
        rw [up_ne (by omega), up_ne (by omega), up_ne (by decide)]
        omega
      · have z9 : ¬ nuK B L (tkE B L (tkE B L q)) 0 99 = 0 := fun z => by have := (p1 z).1; omega
        obtain ⟨-, rfl⟩ := p2 z9
        refine z_ki eX5_readNameOptions_58 ?_
        refine ze_z eX5_readNameOptions_59 rfl (by first | exact Or.inl rfl | exact Or.inr rfl) ?_
        have eN : poF B L k q D W 0 = .inl (nuK B L (tkE B L (tkE B L q)) 0 99, tkA B L (tkE B L (tkE B L q))) := by unfold poF coF; rw [if_pos z10, if_pos z45, if_neg z9]
        rw [eN]
        exact ⟨rfl, (S3.fr F5).bad _ _⟩
theorem hJ_nm {g : zHp} {D W : Nat → Int} {w : Int} (H : hJ g D W 0 (nN D) (nN D)) (h1 : D 1 = 0) (h8 : D 0 < 8) : hJ (zup (zup g 14 0 ((nN D : Int) + 1)) 15 (nN D) w) (up D 0 (D 0 + 1)) (up W (nN D) w) 0 (nN D) (nN D) := by
  obtain ⟨a1, a2, a3, a4, a5, a6, a7, a8, a9, a10⟩ := H
  have hn := nN_dN a1
  have eN : nN (up D 0 (D 0 + 1)) = nN D + 1 := by unfold nN; rw [up_at]; unfold dN at a1; omega
  have eS : nS (up D 0 (D 0 + 1)) = 0 := by unfold nS; rw [up_ne (by decide)]; omega
  unfold hJ
  rw [eN, eS]
  refine ⟨?_, by rw [up_ne (by decide)]; exact a2, ⟨?_, ?_, ?_, ?_⟩, Or.inl rfl, fun k hk => ?_, fun k hk => ?_, fun s hs => by omega, fun s hs => by omega, fun z k hk => ?_, fun z => by omega⟩
  · unfold dN at a1 ⊢
    rw [up_at, up_ne (by decide)]
    omega
  · rw [zup_off (by decide), zup_at, up_at, hn.1]
  · rw [zup_off (by decide), zup_ne (by decide), up_ne (by decide)]; exact a3.2.1
  · rw [zup_off (by decide), zup_ne (by decide)]; exact a3.2.2.1
  · rw [zup_off (by decide), zup_ne (by decide), up_ne (by decide)]; exact a3.2.2.2
  · by_cases z : k = nN D
    · rw [z, zup_at, up_at]
    · rw [zup_ne (by omega), zup_off (by decide), up_ne z]; exact a5 k (by omega)
  · rw [zup_off (by decide), zup_off (by decide), up_ne (by omega)]; exact a6 k hk
  · rw [zup_off (by decide), zup_off (by decide), zup_off (by decide), zup_off (by decide)]; exact a9 z k hk
theorem xRd01 {h0 g : zHp} {B : Nat → Int} {L q0 : Nat} {R : Rh} {v : Int} (H : xRd h0 B L q0 R v g) : v = 0 ∨ v = 1 := by
  cases R with
  | inl e => exact Or.inl H.1.symm
  | inr s => exact Or.inr H.1.symm
theorem x_readName (h0 h : zHp) (B : Nat → Int) (L q : Nat) (D W : Nat → Int) (ht : Int) (S : xTs 14 23 h0 B L h) (T : xTk B L q h) (hq : q ≤ L) (I : hI h D W ht) (k1 : tkK B L q = 1) : zCi mX5_readName 6 [zA 14, zA 2] h (fun v h' => xRd h0 B L q (nameF B L q D W ht) v h') := by
  refine z_enter [zA 14, zA 2, zU] (by decide +kernel) (Nat.le_of_ble_eq_true rfl) rfl (fun hra hrg => ?_)
  have kb := tk_b (B := B) hq
  have hn := nN_dN I.1
  have i3 := I.2.2.1
  have i4 := I.2.2.2.1
  refine z_al0 eX5_readName_0 ?_
  refine z_gi eX5_readName_1 fX5_51 zs14 ?_
  refine z_igt eX5_readName_4 rfl (fun c4 => ?_) (fun c4 => ?_)
  · refine z_al1 eX5_readName_14 ?_
    refine z_ki eX5_readName_15 ?_
    refine zc_vi1 eX5_readName_17 lX5_103 tX9_refuse zs2 (by decide) (Nat.le_of_ble_eq_true rfl) (x_ref T _) ?_
    rintro _ _ ⟨rfl, rfl⟩ -
    refine ze_z eX5_readName_20 rfl (by first | exact Or.inl rfl | exact Or.inr rfl) ?_
    have eN : nameF B L q D W ht = .inl (7, tkA B L q) := by unfold nameF; rw [if_pos (by omega)]
    rw [eN, fK_1 (by omega)]
    exact ⟨rfl, S.bad _ _⟩
  · refine z_al0 eX5_readName_7 ?_
    refine z_gi eX5_readName_8 fX5_47 zs14 ?_
    refine z_ieq eX5_readName_11 rfl (fun c11 => ?_) (fun c11 => ?_)
    · refine z_al1 eX5_readName_21 ?_
      refine zc_vv0 eX5_readName_22 lX5_75 tX9_advance zs2 (by decide) (Nat.le_of_ble_eq_true rfl) (x_adv h B L S.2.1 _ kb.2.2.1 (T.2.2.2.2 (by omega))) ?_
      rintro g1 ⟨F1, T1⟩
      have S1 := S.fr F1
      have e14 : g1 14 0 = (nN D : Int) := by rw [F1.1 14 (by decide), i3.1]; exact hn.1
      have eW : ∀ k : Nat, k < nN D → g1 15 k = W k := fun k hk => by rw [F1.1 15 (by decide)]; exact I.2.2.2.2.1 k hk
      have ht0 : ht = 0 := by omega
      subst ht0
      refine z_al1 eX5_readName_25 ?_
      refine zc_si1 eX5_readName_26 lX5_107 tX5_isNameWord (by decide) (Nat.le_of_ble_eq_true rfl) (x_isNameW _ B L S1.2.1 _ kb.2.2.1 T1) ?_
      rintro _ _ ⟨rfl, rfl⟩ -
      refine z_ine eX5_readName_29 rfl (fun c29 => ?_) (fun c29 => ?_)
      · have zn := b01T c29
        have kb1 := tk_b (B := B) kb.2.2.1
        refine z_al0 eX5_readName_38 ?_
        refine z_al1 eX5_readName_39 ?_
        refine z_gj eX5_readName_40 fX5_110 zs2 ?_
        rw [T1.2.2.1 zn.1]
        refine zc_vi1 eX5_readName_43 lX5_114 tX5_find zs14 (by decide) (Nat.le_of_ble_eq_true rfl) (x_fd _ W (nN D) hn.2.1 e14 eW _) ?_
        rintro _ _ ⟨rfl, rfl⟩ -
        refine z_ki eX5_readName_46 ?_
        refine z_ceq eX5_readName_47 rfl (fun c47 => ?_) (fun c47 => ?_)
        · refine z_al0 eX5_readName_56 ?_
          refine z_gi eX5_readName_57 fX5_40 zs14 ?_
          refine z_ki eX5_readName_60 ?_
          refine z_clt eX5_readName_62 rfl (fun c62 => ?_) (fun c62 => ?_)
          · refine z_al0 eX5_readName_72 ?_
            refine z_gi eX5_readName_73 fX5_40 zs14 ?_
            rw [e14]
            refine z_is2 eX5_readName_76 zn2 ?_
            refine z_al0 eX5_readName_77 ?_
            refine z_dup eX5_readName_78 zn2 ?_
            refine z_gi eX5_readName_79 fX5_40 zs14 ?_
            rw [e14]
            refine z_ki eX5_readName_82 ?_
            refine z_iaddN eX5_readName_83 (by omega) (by omega) ?_
            refine z_pi eX5_readName_84 pX5_40 zs14 ?_
            refine z_al0 eX5_readName_87 ?_
            refine z_ga eX5_readName_88 fX5_9 zs14 (t := 15) rfl ?_
            refine z_il2 eX5_readName_91 ?_
            refine z_al1 eX5_readName_92 ?_
            refine z_gj eX5_readName_93 fX5_110 zs2 ?_
            rw [zup_off (by decide), T1.2.2.1 zn.1]
            refine zs_lN eX5_readName_96 zs15 (j := nN D) (by omega) (by omega) ?_
            have S2 := (S1.up (c := 14) (by decide) (by decide) 0 ((nN D : Int) + 1)).up (c := 15) (by decide) (by decide) (nN D) (tkW B L (tkE B L q))
            have e32 : zup (zup g1 14 0 ((nN D : Int) + 1)) 15 (nN D) (tkW B L (tkE B L q)) 2 3 = ((tkE B L (tkE B L q) : Nat) : Int) := by rw [zup_off (by decide), zup_off (by decide)]; exact T1.2.2.2.2 (by have := zn.k; omega)
            have J2 : hJ (zup (zup g1 14 0 ((nN D : Int) + 1)) 15 (nN D) (tkW B L (tkE B L q))) (up D 0 (D 0 + 1)) (up W (nN D) (tkW B L (tkE B L q))) 0 (nN D) (nN D) := hJ_nm (I.fr F1.1) (by omega) (by omega)
            refine z_al0 eX5_readName_97 ?_
            refine z_al1 eX5_readName_98 ?_
            refine z_il2 eX5_readName_99 ?_
            refine zc_vi2 eX5_readName_100 lX5_118 tX5_readNameOptions zs14 (by decide) (Nat.le_of_ble_eq_true rfl) (x_nameOpt h0 _ B L _ q (nN D) (up D 0 (D 0 + 1)) (up W (nN D) (tkW B L (tkE B L q))) S2 e32 kb1.2.2.1 J2 (by omega) (by rw [up_at]; omega) (by rw [up_ne (by decide)]; omega) (by omega)) ?_
            rintro v1 g3 R1 hv1
            refine ze_z eX5_readName_103 rfl (xRd01 R1) ?_
            have eN : nameF B L q D W 0 = poF B L (nN D) (tkE B L (tkE B L q)) (up D 0 (D 0 + 1)) (up W (nN D) (tkW B L (tkE B L q))) 0 := by unfold nameF; rw [if_neg (by omega), if_pos zn, if_pos (by omega), if_neg (by omega)]
            rw [eN]
            exact R1
          · refine z_al1 eX5_readName_65 ?_
            refine z_ki eX5_readName_66 ?_
            refine zc_vi1 eX5_readName_68 lX5_103 tX9_refuse zs2 (by decide) (Nat.le_of_ble_eq_true rfl) (x_ref T1 _) ?_
            rintro _ _ ⟨rfl, rfl⟩ -
            refine ze_z eX5_readName_71 rfl (by first | exact Or.inl rfl | exact Or.inr rfl) ?_
            have eN : nameF B L q D W 0 = .inl (6, tkA B L (tkE B L q)) := by unfold nameF; rw [if_neg (by omega), if_pos zn, if_pos (by omega), if_pos (by omega)]
            rw [eN, fK_1 (by have := zn.k; omega)]
            exact ⟨rfl, S1.bad _ _⟩
        · refine z_al1 eX5_readName_50 ?_
          refine z_ki eX5_readName_51 ?_
          refine zc_vi1 eX5_readName_52 lX5_103 tX9_refuse zs2 (by decide) (Nat.le_of_ble_eq_true rfl) (x_ref T1 _) ?_
          rintro _ _ ⟨rfl, rfl⟩ -
          refine ze_z eX5_readName_55 rfl (by first | exact Or.inl rfl | exact Or.inr rfl) ?_
          have eN : nameF B L q D W 0 = .inl (3, tkA B L (tkE B L q)) := by unfold nameF; rw [if_neg (by omega), if_pos zn, if_neg (by omega)]
          rw [eN, fK_1 (by have := zn.k; omega)]
          exact ⟨rfl, S1.bad _ _⟩
      · have zn := b01F c29
        refine z_al1 eX5_readName_32 ?_
        refine z_ki eX5_readName_33 ?_
        refine zc_vi1 eX5_readName_34 lX5_103 tX9_refuse zs2 (by decide) (Nat.le_of_ble_eq_true rfl) (x_ref T1 _) ?_
        rintro _ _ ⟨rfl, rfl⟩ -
        refine ze_z eX5_readName_37 rfl (by first | exact Or.inl rfl | exact Or.inr rfl) ?_
        have eN : nameF B L q D W 0 = .inl (fK (tkK B L (tkE B L q)) 2, tkA B L (tkE B L q)) := by unfold nameF; rw [if_neg (by omega), if_neg zn]
        rw [eN]
        exact ⟨rfl, S1.bad _ _⟩
    · refine z_al1 eX5_readName_14 ?_
      refine z_ki eX5_readName_15 ?_
      refine zc_vi1 eX5_readName_17 lX5_103 tX9_refuse zs2 (by decide) (Nat.le_of_ble_eq_true rfl) (x_ref T _) ?_
      rintro _ _ ⟨rfl, rfl⟩ -
      refine ze_z eX5_readName_20 rfl (by first | exact Or.inl rfl | exact Or.inr rfl) ?_
      have eN : nameF B L q D W ht = .inl (7, tkA B L q) := by unfold nameF; rw [if_pos (by omega)]
      rw [eN, fK_1 (by omega)]
      exact ⟨rfl, S.bad _ _⟩
