-- the class's hall (written by wip/tools/specZ8.py)
theorem tieF_o {D : Nat → Int} {N : Nat} (hD : ∀ m : Nat, m < N → 0 ≤ D (290 + m) ∧ D (290 + m) < 9) : ∀ n : Nat, n ≤ N → ∀ j : Nat, ¬ (11 ≤ j ∧ j < 20) → tieF D n j = D j := by
  intro n
  induction n with
  | zero => intro _ j _; rfl
  | succ n ih =>
    intro hn j hj
    have := hD n (by omega)
    rw [tieF, up_ne (by omega)]
    exact ih (by omega) j hj
theorem tieF_v {D pl : Nat → Int} {N : Nat} (h1 : ∀ m : Nat, m < N → 0 ≤ D (290 + m) ∧ pl (D (290 + m)).toNat = (m : Int)) : ∀ n : Nat, n ≤ N → ∀ m : Nat, m < n → tieF D n (11 + (D (290 + m)).toNat) = (m : Int) := by
  intro n
  induction n with
  | zero => intro _ m hm; omega
  | succ n ih =>
    intro hn m hm
    rw [tieF]
    by_cases z : m = n
    · rw [z, up_at]
    · rw [up_ne (fun e => ?_)]
      · exact ih (by omega) m (by omega)
      · have q1 := (h1 m (by omega)).2
        have q2 := (h1 n (by omega)).2
        rw [show (D (290 + m)).toNat = (D (290 + n)).toNat by omega, q2] at q1
        omega
theorem hI_tie {h g : zHp} {D D3 W : Nat → Int} (I : hI h D W 0) (eg : ∀ c : Nat, ¬ c = 2 → ¬ c = 17 → ¬ c = 18 → g c = zup h 14 6 1 c) (R : rowI (nN D) (g 17) (g 18) 0) (R2 : ∀ k : Nat, k < nN D → g 17 (0 + k) = D3 (290 + k)) (eD : ∀ j : Nat, ¬ (290 ≤ j ∧ j < 290 + 8) → D3 j = D j) : hI g (tieF D3 (nN D)) W 1 := by
  obtain ⟨h1, h2, h3, h4, h5, h6, h7, h8, h9, h10⟩ := I
  have hn := nN_dN h1
  have hD : ∀ m : Nat, m < nN D → 0 ≤ D3 (290 + m) ∧ D3 (290 + m) < 9 := fun m hm => by
    have := (R m hm).1
    rw [R2 m hm] at this
    omega
  have uD : ∀ j : Nat, ¬ (11 ≤ j ∧ j < 20) → j < 290 → tieF D3 (nN D) j = D j := fun j j1 j2 => by rw [tieF_o hD _ (Nat.le_refl _) j j1, eD j (by omega)]
  have eN : nN (tieF D3 (nN D)) = nN D := by
    show (tieF D3 (nN D) 0).toNat = nN D
    rw [uD 0 (by omega) (by omega)]
    rfl
  have eS : nS (tieF D3 (nN D)) = nS D := by
    show (tieF D3 (nN D) 1).toNat = nS D
    rw [uD 1 (by omega) (by omega)]
    rfl
  have ch : ∀ c : Nat, ¬ c = 14 → ¬ c = 2 → ¬ c = 17 → ¬ c = 18 → g c = h c := fun c c1 c2 c3 c4 => by rw [eg c c2 c3 c4, zup_off c1]
  have g14 : ∀ i : Nat, ¬ i = 6 → g 14 i = h 14 i := fun i hi => by rw [eg 14 (by decide) (by decide) (by decide), zup_ne (by omega)]
  unfold hI hJ
  rw [eN, eS, uD 2 (by omega) (by omega), uD 0 (by omega) (by omega), uD 1 (by omega) (by omega), g14 0 (by decide), g14 1 (by decide), g14 7 (by decide)]
  refine ⟨?_, h2, ⟨h3.1, h3.2.1, ?_, h3.2.2.2⟩, Or.inr rfl, fun k hk => ?_, fun k hk => ?_, fun t ht2 => ?_, fun t ht2 => ?_, fun z => by omega, fun _ => ⟨R, fun k hk => ?_⟩⟩
  · unfold dN
    rw [uD 0 (by omega) (by omega), uD 1 (by omega) (by omega)]
    exact h1
  · rw [eg 14 (by decide) (by decide) (by decide), zup_at]
  · rw [ch 15 (by decide) (by decide) (by decide) (by decide)]; exact h5 k hk
  · rw [ch 16 (by decide) (by decide) (by decide) (by decide), uD (3 + k) (by omega) (by omega)]; exact h6 k hk
  · refine (h7 t ht2).cg ?_ ?_
    · rw [ch 19 (by decide) (by decide) (by decide) (by decide), ch 20 (by decide) (by decide) (by decide) (by decide), ch 21 (by decide) (by decide) (by decide) (by decide)]
      exact ⟨rfl, rfl, rfl⟩
    · rw [uD _ (by omega) (by omega), uD _ (by omega) (by omega), uD _ (by omega) (by omega)]
      exact ⟨rfl, rfl, rfl⟩
  · have q := h8 t ht2
    rw [ch 22 (by decide) (by decide) (by decide) (by decide), ch 23 (by decide) (by decide) (by decide) (by decide)]
    exact ⟨q.1, fun k hk => by rw [uD _ (by omega) (by omega)]; exact q.2 k hk⟩
  · have q := R k hk
    have v := tieF_v (D := D3) (pl := g 18) (N := nN D) (fun m hm => ⟨(hD m hm).1, by
      have y := (R m hm).2.2.2
      rw [R2 m hm, Nat.zero_add] at y
      exact y⟩) (nN D) (Nat.le_refl _) (g 18 k).toNat (by rw [Nat.zero_add] at q; omega)
    rw [Nat.zero_add] at q
    have e : D3 (290 + (g 18 k).toNat) = (k : Int) := by
      rw [← R2 _ (by omega)]
      exact q.2.2.1
    rw [e, Int.toNat_natCast] at v
    omega
theorem x_readTies (h0 h : zHp) (B : Nat → Int) (L q : Nat) (D W : Nat → Int) (ht : Int) (S : xTs 14 23 h0 B L h) (T : xTk B L q h) (hq : q ≤ L) (I : hI h D W ht) (k1 : tkK B L q = 1) : zCi mX5_readTies 7 [zA 14, zA 2] h (fun v h' => xRd h0 B L q (tiesF B L q D W ht) v h') := by
  refine z_enter [zA 14, zA 2] (by decide +kernel) (Nat.le_of_ble_eq_true rfl) rfl (fun hra hrg => ?_)
  have kb := tk_b (B := B) hq
  have hn := nN_dN I.1
  have i3 := I.2.2.1
  have i4 := I.2.2.2.1
  refine z_al0 eX5_readTies_0 ?_
  refine z_gi eX5_readTies_1 fX5_47 zs14 ?_
  refine z_ieq eX5_readTies_4 rfl (fun c4 => ?_) (fun c4 => ?_)
  · have h0t : ht = 0 := by omega
    subst h0t
    refine z_al0 eX5_readTies_13 ?_
    refine z_ki eX5_readTies_14 ?_
    refine z_pz eX5_readTies_15 pX5_47 zs14 (by first | exact Or.inl rfl | exact Or.inr rfl) ?_
    refine z_al0 eX5_readTies_18 ?_
    refine z_al1 eX5_readTies_19 ?_
    refine z_al0 eX5_readTies_20 ?_
    refine z_ga eX5_readTies_21 fX5_19 zs14 (t := 17) rfl ?_
    refine z_al0 eX5_readTies_24 ?_
    refine z_ga eX5_readTies_25 fX5_22 zs14 (t := 18) rfl ?_
    refine z_ki eX5_readTies_28 ?_
    rw [show (0 : Int) = ((0 : Nat) : Int) from rfl]
    refine zc_vi4 eX5_readTies_29 lX5_144 tX5_readRow zs14 (by decide) (Nat.le_of_ble_eq_true rfl) (x_row h0 (zup h 14 6 1) B L (nN D) 17 18 0 290 q 8 D W 1 hn.2.1 (Or.inr ⟨rfl, rfl, rfl⟩) zs17 zs18 (by omega) (by rw [zup_ne (by decide), i3.1]; exact hn.1) (fun k hk => by rw [zup_off (by decide)]; exact I.2.2.2.2.1 k hk) (tkE B L q) (S.up (c := 14) (by decide) (by decide) 6 1) (by rw [zup_off (by decide)]; exact T.2.2.2.2 (by omega)) kb.2.2.1 (by omega)) ?_
    rintro v3 g7 R3 -
    refine ze_z eX5_readTies_32 rfl (by exact xRow01 R3) ?_
    have eN : tiesF B L q D W 0 = bnd (rowF B L (nN D) W 290 1 9 0 0 D (tkE B L q)) (fun t => .inr (t.1, tieF t.2.1 (nN D), W, 1)) := by unfold tiesF; rw [if_neg (by decide)]
    show xRd h0 B L q (tiesF B L q D W 0) v3 g7
    rw [eN]
    generalize rowF B L (nN D) W 290 1 9 0 0 D (tkE B L q) = R at R3 ⊢
    rcases R with e | u
    · exact R3
    · obtain ⟨y1, y2, y3, y4, y5, y6, y7, y8, y9, y10⟩ := R3
      exact ⟨y1, y2, y3, y4, y5, hI_tie I (fun c c1 c2 c3 => y6 c c1 c2 c3) y8 y9 y10⟩
  · refine z_al1 eX5_readTies_7 ?_
    refine z_ki eX5_readTies_8 ?_
    refine zc_vi1 eX5_readTies_9 lX5_103 tX9_refuse zs2 (by decide) (Nat.le_of_ble_eq_true rfl) (x_ref T _) ?_
    rintro _ _ ⟨rfl, rfl⟩ -
    refine ze_z eX5_readTies_12 rfl (by first | exact Or.inl rfl | exact Or.inr rfl) ?_
    have eN : tiesF B L q D W ht = .inl (5, tkA B L q) := by unfold tiesF; rw [if_pos (by omega)]
    rw [eN, fK_1 (by omega)]
    exact ⟨rfl, S.bad _ _⟩
def xCl (h g : zHp) (n : Nat) : Prop := (∀ c : Nat, ¬ c = 14 → ¬ c = 17 → ¬ c = 18 → g c = h c) ∧ g 14 0 = 0 ∧ g 14 1 = 0 ∧ g 14 6 = 0 ∧ g 14 7 = 0 ∧ ∀ k : Nat, k < n → g 17 k = (k : Int) ∧ g 18 k = (k : Int)
theorem x_cl_l (h : zHp) : ∀ (r n : Nat) (g : zHp), n + r = 8 → xCl h g n → zRW mX5_clear 0 (0, 0) 22 [zA 14, zI n] [] 143 g (zqv (fun h' => xCl h h' 8)) := by
  intro r
  induction r using Nat.strongRecOn with
  | ind r ih =>
    intro n g hk C
    refine z_il1 eX5_clear_22 ?_
    refine z_ki eX5_clear_23 ?_
    refine z_cge eX5_clear_25 rfl (fun c25 => ?_) (fun c25 => ?_)
    · refine ze_v eX5_clear_48 rfl ?_
      have e : n = 8 := by omega
      subst e
      exact C
    · refine z_al0 eX5_clear_28 ?_
      refine z_ga eX5_clear_29 fX5_19 zs14 (t := 17) rfl ?_
      refine z_il1 eX5_clear_32 ?_
      refine z_il1 eX5_clear_33 ?_
      refine zs_iN eX5_clear_34 zs17 (j := n) (by omega) (by omega) ?_
      refine z_al0 eX5_clear_35 ?_
      refine z_ga eX5_clear_36 fX5_22 zs14 (t := 18) rfl ?_
      refine z_il1 eX5_clear_39 ?_
      refine z_il1 eX5_clear_40 ?_
      refine zs_iN eX5_clear_41 zs18 (j := n) (by omega) (by omega) ?_
      refine z_incN1 eX5_clear_42 zn2 (by omega) (by omega) ?_
      refine z_goto eX5_clear_45 rfl ?_
      refine ih (r - 1) (by omega) (n + 1) _ (by omega) ⟨fun c c1 c2 c3 => by rw [zup_off c3, zup_off c2]; exact C.1 c c1 c2 c3, by rw [zup_off (by decide), zup_off (by decide)]; exact C.2.1, by rw [zup_off (by decide), zup_off (by decide)]; exact C.2.2.1, by rw [zup_off (by decide), zup_off (by decide)]; exact C.2.2.2.1, by rw [zup_off (by decide), zup_off (by decide)]; exact C.2.2.2.2.1, fun k hk => ?_⟩
      by_cases z : k = n
      · rw [z, zup_off (by decide), zup_at, zup_at]; exact ⟨rfl, rfl⟩
      · rw [zup_off (by decide), zup_ne (by omega), zup_ne (by omega), zup_off (by decide)]; exact C.2.2.2.2.2 k (by omega)
theorem x_clear (h : zHp) : zCv mX5_clear 0 [zA 14] h (fun h' => xCl h h' 8) := by
  refine z_enter [zA 14, zU] (by decide +kernel) (Nat.le_of_ble_eq_true rfl) rfl (fun hra hrg => ?_)
  refine z_al0 eX5_clear_0 ?_
  refine z_ki eX5_clear_1 ?_
  refine z_pi eX5_clear_2 pX5_40 zs14 ?_
  refine z_al0 eX5_clear_5 ?_
  refine z_ki eX5_clear_6 ?_
  refine z_pi eX5_clear_7 pX5_44 zs14 ?_
  refine z_al0 eX5_clear_10 ?_
  refine z_ki eX5_clear_11 ?_
  refine z_pz eX5_clear_12 pX5_47 zs14 (by first | exact Or.inl rfl | exact Or.inr rfl) ?_
  refine z_al0 eX5_clear_15 ?_
  refine z_ki eX5_clear_16 ?_
  refine z_pi eX5_clear_17 pX5_51 zs14 ?_
  refine z_ki eX5_clear_20 ?_
  refine z_is1 eX5_clear_21 zn2 ?_
  exact x_cl_l h 8 0 _ (by omega) ⟨fun c c1 _ _ => by rw [zup_off c1, zup_off c1, zup_off c1, zup_off c1], by rw [zup_ne (by decide), zup_ne (by decide), zup_ne (by decide), zup_at], by rw [zup_ne (by decide), zup_ne (by decide), zup_at], by rw [zup_ne (by decide), zup_at], by rw [zup_at], fun k hk => by omega⟩
theorem hI_0 {h g : zHp} {D W : Nat → Int} (C : xCl h g 8) (h0 : D 0 = 0 ∧ D 1 = 0 ∧ D 2 = 0) : hI g D W 0 := by
  have eN : nN D = 0 := by unfold nN; omega
  have eS : nS D = 0 := by unfold nS; omega
  unfold hI hJ
  rw [eN, eS, h0.1, h0.2.1, h0.2.2]
  refine ⟨by unfold dN; omega, ⟨by omega, by decide⟩, ⟨C.2.1, C.2.2.1, C.2.2.2.1, C.2.2.2.2.1⟩, Or.inl rfl, fun k hk => by omega, fun k hk => by omega, fun k hk => by omega, fun k hk => by omega, fun _ => C.2.2.2.2.2, fun z => by omega⟩
/-- the class after a hall's text -/
def xRf (h0 : zHp) (R : Rh) (v : Int) (g : zHp) : Prop := match R with
  | .inl e => (0 : Int) = v ∧ xXs 14 23 h0 e.1 e.2 g
  | .inr s => (1 : Int) = v ∧ xHf 14 23 h0 g ∧ g 2 8 = 0 ∧ g 2 9 = -1 ∧ hI g s.2.1 s.2.2.1 s.2.2.2
theorem xRf01 {h0 g : zHp} {R : Rh} {v : Int} (H : xRf h0 R v g) : v = 0 ∨ v = 1 := by
  cases R with
  | inl e => exact Or.inl H.1.symm
  | inr s => exact Or.inr H.1.symm
theorem x_rf_l (h0 : zHp) (B : Nat → Int) (L : Nat) : ∀ (f i q : Nat) (D W : Nat → Int) (ht : Int) (h : zHp), i + f = 701 → L + 1 ≤ q + f → xTs 14 23 h0 B L h → h 2 3 = (q : Int) → q ≤ L → hI h D W ht → zRW mX5_readFrom 8 (0, 0) 6 [zA 14, zA 2, zI i, zU] [] 143 h (zqi (fun v h' => xRf h0 (hallF B L f q D W ht) v h')) := by
  intro f
  induction f with
  | zero => intro i q D W ht h hf hq2 S e3 hq; omega
  | succ f ih =>
    intro i q D W ht h hf hq2 S e3 hq I
    have kb := tk_b (B := B) hq
    refine z_il2 eX5_readFrom_6 ?_
    refine z_ki eX5_readFrom_7 ?_
    refine z_cgt eX5_readFrom_10 rfl (fun c10 => ?_) (fun c10 => ?_)
    · omega
    · refine z_al1 eX5_readFrom_13 ?_
      refine zc_vv0 eX5_readFrom_14 lX5_75 tX9_advance zs2 (by decide) (Nat.le_of_ble_eq_true rfl) (x_adv h B L S.2.1 q hq e3) ?_
      rintro g1 ⟨F1, T1⟩
      have S1 := S.fr F1
      have I1 : hI g1 D W ht := hJ.fr I F1.1
      refine z_al1 eX5_readFrom_17 ?_
      refine zc_vi0 eX5_readFrom_18 lX5_80 tX9_atEnd zs2 (by decide) (Nat.le_of_ble_eq_true rfl) (x_atEnd _ B L q T1) ?_
      rintro _ _ ⟨rfl, rfl⟩ -
      refine z_ieq eX5_readFrom_21 rfl (fun c21 => ?_) (fun c21 => ?_)
      · have z21 := iteF c21
        refine z_al1 eX5_readFrom_26 ?_
        refine z_ldcS eX5_readFrom_27 sX5_84 ?_
        refine zc_vi1 eX5_readFrom_29 lX5_86 tX9_at zs2 (by decide) (Nat.le_of_ble_eq_true rfl) (x_at _ B L S1.2.1 q hq T1 0 (by decide)) ?_
        rintro _ _ ⟨rfl, rfl⟩ -
        refine z_ieq eX5_readFrom_32 rfl (fun c32 => ?_) (fun c32 => ?_)
        · have z32 := iteF c32
          refine z_al1 eX5_readFrom_44 ?_
          refine z_ldcS eX5_readFrom_45 sX5_94 ?_
          refine zc_vi1 eX5_readFrom_47 lX5_86 tX9_at zs2 (by decide) (Nat.le_of_ble_eq_true rfl) (x_at _ B L S1.2.1 q hq T1 3 (by decide)) ?_
          rintro _ _ ⟨rfl, rfl⟩ -
          refine z_ieq eX5_readFrom_50 rfl (fun c50 => ?_) (fun c50 => ?_)
          · have z50 := iteF c50
            refine z_al1 eX5_readFrom_62 ?_
            refine z_ldcS eX5_readFrom_63 sX5_99 ?_
            refine zc_vi1 eX5_readFrom_65 lX5_86 tX9_at zs2 (by decide) (Nat.le_of_ble_eq_true rfl) (x_at _ B L S1.2.1 q hq T1 6 (by decide)) ?_
            rintro _ _ ⟨rfl, rfl⟩ -
            refine z_ieq eX5_readFrom_68 rfl (fun c68 => ?_) (fun c68 => ?_)
            · have z68 := iteF c68
              refine z_al1 eX5_readFrom_79 ?_
              refine z_ki eX5_readFrom_80 ?_
              refine zc_vi1 eX5_readFrom_81 lX5_103 tX9_refuse zs2 (by decide) (Nat.le_of_ble_eq_true rfl) (x_ref T1 _) ?_
              rintro _ _ ⟨rfl, rfl⟩ -
              refine z_is3 eX5_readFrom_84 zn0 ?_
              refine z_il3 eX5_readFrom_85 ?_
              refine z_ine eX5_readFrom_86 rfl (fun c86 => ?_) (fun c86 => ?_)
              · exact absurd rfl c86
              · refine z_ki eX5_readFrom_89 ?_
                refine ze_z eX5_readFrom_90 rfl (by first | exact Or.inl rfl | exact Or.inr rfl) ?_
                have eH : hallF B L (f + 1) q D W ht = .inl (fK (tkK B L q) 2, tkA B L q) := by
                  rw [hallF, if_neg z21, if_neg z32, if_neg z50, if_neg z68]
                  rfl
                rw [eH]
                exact ⟨rfl, S1.bad _ _⟩
            · have z68 := iteT c68
              refine z_al0 eX5_readFrom_71 ?_
              refine z_al1 eX5_readFrom_72 ?_
              refine zc_vi1 eX5_readFrom_73 lX5_100 tX5_readTies zs14 (by decide) (Nat.le_of_ble_eq_true rfl) (x_readTies h0 g1 B L q D W ht S1 T1 hq I1 z68.1) ?_
              rintro v1 g2 R1 -
              refine z_goto eX5_readFrom_76 rfl ?_
              refine z_is3 eX5_readFrom_84 zn0 ?_
              refine z_il3 eX5_readFrom_85 ?_
              refine z_ine eX5_readFrom_86 rfl (fun c86 => ?_) (fun c86 => ?_)
              · refine z_incN2 eX5_readFrom_91 zn2 (by omega) (by omega) ?_
                refine z_goto eX5_readFrom_94 rfl ?_
                refine z_fg3 ?_
                have eH : hallF B L (f + 1) q D W ht = bnd (tiesF B L q D W ht) (fun s => hallF B L f s.1 s.2.1 s.2.2.1 s.2.2.2) := by
                  rw [hallF, if_neg z21]
                  rw [if_neg z32, if_neg z50, if_pos z68]
                rw [eH]
                generalize tiesF B L q D W ht = R at R1 ⊢
                rcases R with e | s
                · exact absurd R1.1.symm c86
                · obtain ⟨-, y2, y3, y4, y5, y6⟩ := R1
                  exact ih (i + 1) s.1 s.2.1 s.2.2.1 s.2.2.2 _ (by omega) (by omega) y5 y4 y3 y6
              · refine z_ki eX5_readFrom_89 ?_
                refine ze_z eX5_readFrom_90 rfl (by first | exact Or.inl rfl | exact Or.inr rfl) ?_
                have eH : hallF B L (f + 1) q D W ht = bnd (tiesF B L q D W ht) (fun s => hallF B L f s.1 s.2.1 s.2.2.1 s.2.2.2) := by
                  rw [hallF, if_neg z21]
                  rw [if_neg z32, if_neg z50, if_pos z68]
                rw [eH]
                generalize tiesF B L q D W ht = R at R1 ⊢
                rcases R with e | s
                · exact ⟨rfl, R1.2⟩
                · exact absurd (R1.1.trans c86) (by decide)
          · have z50 := iteT c50
            refine z_al0 eX5_readFrom_53 ?_
            refine z_al1 eX5_readFrom_54 ?_
            refine zc_vi1 eX5_readFrom_55 lX5_96 tX5_readSort zs14 (by decide) (Nat.le_of_ble_eq_true rfl) (x_readSort h0 g1 B L q D W ht S1 T1 hq I1 z50.1) ?_
            rintro v1 g2 R1 -
            refine z_is3 eX5_readFrom_58 zn0 ?_
            refine z_goto eX5_readFrom_59 rfl ?_
            refine z_il3 eX5_readFrom_85 ?_
            refine z_ine eX5_readFrom_86 rfl (fun c86 => ?_) (fun c86 => ?_)
            · refine z_incN2 eX5_readFrom_91 zn2 (by omega) (by omega) ?_
              refine z_goto eX5_readFrom_94 rfl ?_
              refine z_fg3 ?_
              have eH : hallF B L (f + 1) q D W ht = bnd (sortF B L q D W ht) (fun s => hallF B L f s.1 s.2.1 s.2.2.1 s.2.2.2) := by
                rw [hallF, if_neg z21]
                rw [if_neg z32, if_pos z50]
              rw [eH]
              generalize sortF B L q D W ht = R at R1 ⊢
              rcases R with e | s
              · exact absurd R1.1.symm c86
              · obtain ⟨-, y2, y3, y4, y5, y6⟩ := R1
                exact ih (i + 1) s.1 s.2.1 s.2.2.1 s.2.2.2 _ (by omega) (by omega) y5 y4 y3 y6
            · refine z_ki eX5_readFrom_89 ?_
              refine ze_z eX5_readFrom_90 rfl (by first | exact Or.inl rfl | exact Or.inr rfl) ?_
              have eH : hallF B L (f + 1) q D W ht = bnd (sortF B L q D W ht) (fun s => hallF B L f s.1 s.2.1 s.2.2.1 s.2.2.2) := by
                rw [hallF, if_neg z21]
                rw [if_neg z32, if_pos z50]
              rw [eH]
              generalize sortF B L q D W ht = R at R1 ⊢
              rcases R with e | s
              · exact ⟨rfl, R1.2⟩
              · exact absurd (R1.1.trans c86) (by decide)
        · have z32 := iteT c32
          refine z_al0 eX5_readFrom_35 ?_
          refine z_al1 eX5_readFrom_36 ?_
          refine zc_vi1 eX5_readFrom_37 lX5_90 tX5_readName zs14 (by decide) (Nat.le_of_ble_eq_true rfl) (x_readName h0 g1 B L q D W ht S1 T1 hq I1 z32.1) ?_
          rintro v1 g2 R1 -
          refine z_is3 eX5_readFrom_40 zn0 ?_
          refine z_goto eX5_readFrom_41 rfl ?_
          refine z_il3 eX5_readFrom_85 ?_
          refine z_ine eX5_readFrom_86 rfl (fun c86 => ?_) (fun c86 => ?_)
          · refine z_incN2 eX5_readFrom_91 zn2 (by omega) (by omega) ?_
            refine z_goto eX5_readFrom_94 rfl ?_
            refine z_fg3 ?_
            have eH : hallF B L (f + 1) q D W ht = bnd (nameF B L q D W ht) (fun s => hallF B L f s.1 s.2.1 s.2.2.1 s.2.2.2) := by
              rw [hallF, if_neg z21]
              rw [if_pos z32]
            rw [eH]
            generalize nameF B L q D W ht = R at R1 ⊢
            rcases R with e | s
            · exact absurd R1.1.symm c86
            · obtain ⟨-, y2, y3, y4, y5, y6⟩ := R1
              exact ih (i + 1) s.1 s.2.1 s.2.2.1 s.2.2.2 _ (by omega) (by omega) y5 y4 y3 y6
          · refine z_ki eX5_readFrom_89 ?_
            refine ze_z eX5_readFrom_90 rfl (by first | exact Or.inl rfl | exact Or.inr rfl) ?_
            have eH : hallF B L (f + 1) q D W ht = bnd (nameF B L q D W ht) (fun s => hallF B L f s.1 s.2.1 s.2.2.1 s.2.2.2) := by
              rw [hallF, if_neg z21]
              rw [if_pos z32]
            rw [eH]
            generalize nameF B L q D W ht = R at R1 ⊢
            rcases R with e | s
            · exact ⟨rfl, R1.2⟩
            · exact absurd (R1.1.trans c86) (by decide)
      · have z21 := iteT c21
        refine z_ki eX5_readFrom_24 ?_
        refine ze_z eX5_readFrom_25 rfl (by first | exact Or.inl rfl | exact Or.inr rfl) ?_
        have eH : hallF B L (f + 1) q D W ht = .inr (q, D, W, ht) := by rw [hallF, if_pos z21]
        rw [eH]
        exact ⟨rfl, S1.1, S1.2.2.1, S1.2.2.2, I1⟩
theorem x_readFrom (h0 h : zHp) (B : Nat → Int) (L : Nat) (D W : Nat → Int) (S : xTs 14 23 h0 B L h) (e3 : h 2 3 = 0) (hD : D 0 = 0 ∧ D 1 = 0 ∧ D 2 = 0) : zCi mX5_readFrom 8 [zA 14, zA 2] h (fun v h' => xRf h0 (hallF B L 701 0 D W 0) v h') := by
  refine z_enter [zA 14, zA 2, zU, zU] (by decide +kernel) (Nat.le_of_ble_eq_true rfl) rfl (fun hra hrg => ?_)
  refine z_al0 eX5_readFrom_0 ?_
  refine zc_vv0 eX5_readFrom_1 lX5_72 tX5_clear zs14 (by decide) (Nat.le_of_ble_eq_true rfl) (x_clear _) ?_
  rintro g C
  refine z_ki eX5_readFrom_4 ?_
  refine z_is2 eX5_readFrom_5 zn2 ?_
  exact x_rf_l h0 B L 701 0 0 D W 0 g (by omega) (by have := S.2.1.2.1; omega) ⟨⟨fun c c1 c2 => by rw [C.1 c (by omega) (by omega) (by omega)]; exact S.1.1 c c1 c2, by rw [C.1 2 (by decide) (by decide) (by decide)]; exact S.1.2⟩, ⟨by rw [C.1 2 (by decide) (by decide) (by decide)]; exact S.2.1.1, S.2.1.2.1, fun i hi => by rw [C.1 3 (by decide) (by decide) (by decide)]; exact S.2.1.2.2 i hi⟩, by rw [C.1 2 (by decide) (by decide) (by decide)]; exact S.2.2.1, by rw [C.1 2 (by decide) (by decide) (by decide)]; exact S.2.2.2⟩ (by rw [C.1 2 (by decide) (by decide) (by decide)]; exact e3) (Nat.zero_le _) (hI_0 C hD)
/-- the class's tape is begun with n bytes -/
def xOp (h : zHp) (n : Int) : zHp := zup (zup (zup (zup h 2 2 n) 2 3 0) 2 8 0) 2 9 (-1)
theorem x_openN (h : zHp) (n m : Int) (hc : n < 0 ∨ h 2 1 < n ∨ m < n) : zCi mX9_open 0 [zA 2, zI n, zI m] h (fun v h' => (0 : Int) = v ∧ h = h') := by
  refine z_enter [zA 2, zI n, zI m] (by decide +kernel) (Nat.le_of_ble_eq_true rfl) rfl (fun hra hrg => ?_)
  refine z_il1 eX9_open_0 ?_
  refine z_ilt eX9_open_1 rfl (fun c1 => ?_) (fun c1 => ?_)
  · refine z_ki eX9_open_17 ?_
    refine ze_z eX9_open_18 rfl (by first | exact Or.inl rfl | exact Or.inr rfl) ?_
    exact ⟨rfl, rfl⟩
  · refine z_il1 eX9_open_4 ?_
    refine z_al0 eX9_open_5 ?_
    refine z_gi eX9_open_6 fX9_22 zs2 ?_
    refine z_cgt eX9_open_9 rfl (fun c9 => ?_) (fun c9 => ?_)
    · refine z_ki eX9_open_17 ?_
      refine ze_z eX9_open_18 rfl (by first | exact Or.inl rfl | exact Or.inr rfl) ?_
      exact ⟨rfl, rfl⟩
    · refine z_il1 eX9_open_12 ?_
      refine z_il2 eX9_open_13 ?_
      refine z_cle eX9_open_14 rfl (fun c14 => ?_) (fun c14 => ?_)
      · omega
      · refine z_ki eX9_open_17 ?_
        refine ze_z eX9_open_18 rfl (by first | exact Or.inl rfl | exact Or.inr rfl) ?_
        exact ⟨rfl, rfl⟩
theorem x_openY (h : zHp) (n m : Int) (hc : ¬ (n < 0 ∨ h 2 1 < n ∨ m < n)) : zCi mX9_open 0 [zA 2, zI n, zI m] h (fun v h' => (1 : Int) = v ∧ xOp h n = h') := by
  refine z_enter [zA 2, zI n, zI m] (by decide +kernel) (Nat.le_of_ble_eq_true rfl) rfl (fun hra hrg => ?_)
  refine z_il1 eX9_open_0 ?_
  refine z_ilt eX9_open_1 rfl (fun c1 => ?_) (fun c1 => ?_)
  · omega
  · refine z_il1 eX9_open_4 ?_
    refine z_al0 eX9_open_5 ?_
    refine z_gi eX9_open_6 fX9_22 zs2 ?_
    refine z_cgt eX9_open_9 rfl (fun c9 => ?_) (fun c9 => ?_)
    · omega
    · refine z_il1 eX9_open_12 ?_
      refine z_il2 eX9_open_13 ?_
      refine z_cle eX9_open_14 rfl (fun c14 => ?_) (fun c14 => ?_)
      · refine z_al0 eX9_open_19 ?_
        refine z_il1 eX9_open_20 ?_
        refine z_pi eX9_open_21 pX9_25 zs2 ?_
        refine z_al0 eX9_open_24 ?_
        refine z_ki eX9_open_25 ?_
        refine z_pi eX9_open_26 pX9_28 zs2 ?_
        refine z_al0 eX9_open_29 ?_
        refine z_ki eX9_open_30 ?_
        refine z_pi eX9_open_31 pX9_15 zs2 ?_
        refine z_al0 eX9_open_34 ?_
        refine z_ki eX9_open_35 ?_
        refine z_pi eX9_open_36 pX9_19 zs2 ?_
        refine z_ki eX9_open_39 ?_
        refine ze_z eX9_open_40 rfl (by first | exact Or.inl rfl | exact Or.inr rfl) ?_
        exact ⟨rfl, rfl⟩
      · omega
theorem x_empty (h : zHp) : zCv mX9_empty 0 [zA 2] h (fun h' => zup h 2 1 0 = h') := by
  refine z_enter [zA 2] (by decide +kernel) (Nat.le_of_ble_eq_true rfl) rfl (fun hra hrg => ?_)
  refine z_al0 eX9_empty_0 ?_
  refine z_ki eX9_empty_1 ?_
  refine z_pi eX9_empty_2 pX9_22 zs2 ?_
  refine ze_v eX9_empty_5 rfl ?_
  rfl
/-- what the class's hall comes to -/
def xHp (g : zHp) (R : Rh) (v : Int) (h : zHp) : Prop := match R with
  | .inl e => (-1 : Int) = v ∧ ∃ f, xXs 14 23 g e.1 e.2 f ∧ zup (zup f 2 1 0) 0 0 10 = h
  | .inr s => s.2.1 0 = v ∧ ∃ f f2, xHf 14 23 g f ∧ f 2 8 = 0 ∧ f 2 9 = -1 ∧ hI f s.2.1 s.2.2.1 s.2.2.2 ∧ cpH (zup f 2 1 0) 4 14 f2 ∧ zup f2 0 0 0 = h
theorem xOp_S {h : zHp} {B : Nat → Int} {L lo hi : Nat} (h700 : L ≤ 700) (hBy : ∀ i : Nat, i < L → h 3 i = B i ∧ -128 ≤ B i ∧ B i ≤ 127) : xTs lo hi (xOp h L) B L (xOp h L) ∧ xOp h L 2 3 = 0 := by
  unfold xOp
  exact ⟨⟨⟨fun _ _ _ => rfl, rfl⟩, ⟨by rw [zup_ne (by decide), zup_ne (by decide), zup_ne (by decide), zup_at], h700, fun i hi => by rw [zup_off (by decide), zup_off (by decide), zup_off (by decide), zup_off (by decide)]; exact hBy i hi⟩, by rw [zup_ne (by decide), zup_at], by rw [zup_at]⟩, by rw [zup_ne (by decide), zup_ne (by decide), zup_at]⟩
theorem x_hallN (h : zHp) (n : Int) (hc : n < 0 ∨ h 2 1 < n ∨ 700 < n) : zCi mX11_hall 9 [zA 0, zI n] h (fun v h' => pX0 h (-1, 5) v h') := by
  refine z_enter [zA 0, zI n, zU] (by decide +kernel) (Nat.le_of_ble_eq_true rfl) rfl (fun hra hrg => ?_)
  refine z_al0 eX11_hall_0 ?_
  refine z_ga eX11_hall_1 fX11_18 zs0 (t := 2) rfl ?_
  refine z_il1 eX11_hall_4 ?_
  refine z_ki eX11_hall_5 ?_
  refine zc_vi2 eX11_hall_8 lX11_188 tX9_open zs2 (by decide) (Nat.le_of_ble_eq_true rfl) (x_openN _ _ _ hc) ?_
  rintro _ _ ⟨rfl, rfl⟩ -
  refine z_ine eX11_hall_11 rfl (fun c11 => ?_) (fun c11 => ?_)
  · exact absurd rfl c11
  · refine z_al0 eX11_hall_14 ?_
    refine z_ki eX11_hall_15 ?_
    refine zc_vi1 eX11_hall_16 lX11_153 tX11_fail zs0 (by decide) (Nat.le_of_ble_eq_true rfl) (x_fail _ _) ?_
    rintro _ _ ⟨rfl, rfl⟩ -
    refine ze_i eX11_hall_19 rfl ?_
    exact pX0_f zXf.rf rfl
theorem x_hallY (h : zHp) (B : Nat → Int) (L : Nat) (hL : (L : Int) ≤ h 2 1) (h700 : L ≤ 700) (hBy : ∀ i : Nat, i < L → h 3 i = B i ∧ -128 ≤ B i ∧ B i ≤ 127) (D W : Nat → Int) (hD : D 0 = 0 ∧ D 1 = 0 ∧ D 2 = 0) : zCi mX11_hall 9 [zA 0, zI L] h (fun v h' => xHp (xOp h L) (hallF B L 701 0 D W 0) v h') := by
  refine z_enter [zA 0, zI L, zU] (by decide +kernel) (Nat.le_of_ble_eq_true rfl) rfl (fun hra hrg => ?_)
  have S := xOp_S (lo := 14) (hi := 23) h700 hBy
  refine z_al0 eX11_hall_0 ?_
  refine z_ga eX11_hall_1 fX11_18 zs0 (t := 2) rfl ?_
  refine z_il1 eX11_hall_4 ?_
  refine z_ki eX11_hall_5 ?_
  refine zc_vi2 eX11_hall_8 lX11_188 tX9_open zs2 (by decide) (Nat.le_of_ble_eq_true rfl) (x_openY _ _ _ (by omega)) ?_
  rintro _ _ ⟨rfl, rfl⟩ -
  refine z_ine eX11_hall_11 rfl (fun c11 => ?_) (fun c11 => ?_)
  · refine z_al0 eX11_hall_20 ?_
    refine z_ga eX11_hall_21 fX11_29 zs0 (t := 14) rfl ?_
    refine z_al0 eX11_hall_24 ?_
    refine z_ga eX11_hall_25 fX11_18 zs0 (t := 2) rfl ?_
    refine zc_vi1 eX11_hall_28 lX11_191 tX5_readFrom zs14 (by decide) (Nat.le_of_ble_eq_true rfl) (x_readFrom _ _ B L D W S.1 S.2 hD) ?_
    rintro v1 g1 R1 -
    refine z_is2 eX11_hall_31 zn0 ?_
    refine z_al0 eX11_hall_32 ?_
    refine z_ga eX11_hall_33 fX11_18 zs0 (t := 2) rfl ?_
    refine zc_vv0 eX11_hall_36 lX11_195 tX9_empty zs2 (by decide) (Nat.le_of_ble_eq_true rfl) (x_empty _) ?_
    rintro _ rfl
    refine z_il2 eX11_hall_39 ?_
    refine z_ine eX11_hall_40 rfl (fun c40 => ?_) (fun c40 => ?_)
    · generalize hallF B L 701 0 D W 0 = R at R1 ⊢
      obtain ⟨s, rfl⟩ : ∃ s, R = .inr s := by
        rcases R with e | s
        · exact absurd R1.1.symm c40
        · exact ⟨s, rfl⟩
      obtain ⟨-, r2, r3, r4, r5⟩ := R1
      refine z_al0 eX11_hall_50 ?_
      refine z_ga eX11_hall_51 fX11_25 zs0 (t := 4) rfl ?_
      refine z_al0 eX11_hall_54 ?_
      refine z_ga eX11_hall_55 fX11_29 zs0 (t := 14) rfl ?_
      refine zc_vv1 eX11_hall_58 lX11_198 tX5_copyFrom zs4 (by decide) (Nat.le_of_ble_eq_true rfl) (x_copyHall _ 4 14 (Or.inl rfl) (Or.inr (Or.inl rfl)) (by omega)) ?_
      rintro g2 C1
      refine z_al0 eX11_hall_61 ?_
      refine z_al0 eX11_hall_62 ?_
      refine z_ga eX11_hall_63 fX11_25 zs0 (t := 4) rfl ?_
      refine z_gi eX11_hall_66 fX11_120 zs4 ?_
      rw [show g2 4 0 = s.2.1 0 from by rw [C1.2.1, zup_off (by decide)]; exact r5.2.2.1.1]
      refine zc_vi1 eX11_hall_69 lX11_202 tX11_answer zs0 (by decide) (Nat.le_of_ble_eq_true rfl) (x_answer _ _) ?_
      rintro _ _ ⟨rfl, rfl⟩ -
      refine ze_i eX11_hall_72 rfl ?_
      exact ⟨rfl, g1, g2, r2, r3, r4, r5, C1, rfl⟩
    · generalize hallF B L 701 0 D W 0 = R at R1 ⊢
      obtain ⟨e, rfl⟩ : ∃ e, R = .inl e := by
        rcases R with e | s
        · exact ⟨e, rfl⟩
        · exact absurd (R1.1.trans c40) (by decide)
      refine z_al0 eX11_hall_43 ?_
      refine z_ki eX11_hall_44 ?_
      refine zc_vi1 eX11_hall_46 lX11_153 tX11_fail zs0 (by decide) (Nat.le_of_ble_eq_true rfl) (x_fail _ _) ?_
      rintro _ _ ⟨rfl, rfl⟩ -
      refine ze_i eX11_hall_49 rfl ?_
      exact ⟨rfl, g1, R1.2, rfl⟩
  · exact absurd c11 (by decide)
