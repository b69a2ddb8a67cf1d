-- the reference's rule (written by wip/tools/specB1.py)
theorem r_clauseWord (h : zHp) (B : Nat → Int) (L : Nat) (q : Nat) (hq : q ≤ L) (T : mTk B L q h) : zCi mX12_clauseWord 1 [zA 117] h (fun v h' => kdF B L q = v ∧ h = h') := by
  refine z_enter [zA 117] (by decide +kernel) (Nat.le_of_ble_eq_true rfl) rfl (fun hra hrg => ?_)
  refine z_al0 eX12_clauseWord_0 ?_
  refine z_ki eX12_clauseWord_1 ?_
  refine z_ki eX12_clauseWord_3 ?_
  refine z_ki eX12_clauseWord_5 ?_
  refine z_ki eX12_clauseWord_7 ?_
  refine z_ki eX12_clauseWord_9 ?_
  refine z_ki eX12_clauseWord_11 ?_
  refine zc_sj6 eX12_clauseWord_12 lX12_171 tX12_spelled (by decide) (Nat.le_of_ble_eq_true rfl) (r_spelled _ 102 105 114 115 116 0 (by decide)) ?_
  rintro _ _ ⟨rfl, rfl⟩ -
  rw [sp_first]
  refine zc_vi1 eX12_clauseWord_15 lX12_175 tX12_isWord zs117 (by decide) (Nat.le_of_ble_eq_true rfl) (r_isWord _ B L q hq T _ (kC_pos 7 (by decide))) ?_
  rintro _ _ ⟨rfl, rfl⟩ -
  refine z_ieq eX12_clauseWord_18 rfl (fun c18 => ?_) (fun c18 => ?_)
  · have z18 := iteF c18
    refine z_al0 eX12_clauseWord_23 ?_
    refine z_ki eX12_clauseWord_24 ?_
    refine z_ki eX12_clauseWord_26 ?_
    refine z_ki eX12_clauseWord_28 ?_
    refine z_ki eX12_clauseWord_30 ?_
    refine z_ki eX12_clauseWord_32 ?_
    refine z_ki eX12_clauseWord_34 ?_
    refine zc_sj6 eX12_clauseWord_36 lX12_171 tX12_spelled (by decide) (Nat.le_of_ble_eq_true rfl) (r_spelled _ 112 111 105 110 116 115 (by decide)) ?_
    rintro _ _ ⟨rfl, rfl⟩ -
    rw [sp_points]
    refine zc_vi1 eX12_clauseWord_39 lX12_175 tX12_isWord zs117 (by decide) (Nat.le_of_ble_eq_true rfl) (r_isWord _ B L q hq T _ (kC_pos 8 (by decide))) ?_
    rintro _ _ ⟨rfl, rfl⟩ -
    refine z_ieq eX12_clauseWord_42 rfl (fun c42 => ?_) (fun c42 => ?_)
    · have z42 := iteF c42
      refine z_al0 eX12_clauseWord_47 ?_
      refine z_ki eX12_clauseWord_48 ?_
      refine z_ki eX12_clauseWord_50 ?_
      refine z_ki eX12_clauseWord_52 ?_
      refine z_ki eX12_clauseWord_54 ?_
      refine z_ki eX12_clauseWord_56 ?_
      refine z_ki eX12_clauseWord_57 ?_
      refine zc_sj6 eX12_clauseWord_58 lX12_171 tX12_spelled (by decide) (Nat.le_of_ble_eq_true rfl) (r_spelled _ 114 117 110 115 0 0 (by decide)) ?_
      rintro _ _ ⟨rfl, rfl⟩ -
      rw [sp_runs]
      refine zc_vi1 eX12_clauseWord_61 lX12_175 tX12_isWord zs117 (by decide) (Nat.le_of_ble_eq_true rfl) (r_isWord _ B L q hq T _ (kC_pos 9 (by decide))) ?_
      rintro _ _ ⟨rfl, rfl⟩ -
      refine z_ieq eX12_clauseWord_64 rfl (fun c64 => ?_) (fun c64 => ?_)
      · have z64 := iteF c64
        refine z_al0 eX12_clauseWord_69 ?_
        refine z_ki eX12_clauseWord_70 ?_
        refine z_ki eX12_clauseWord_72 ?_
        refine z_ki eX12_clauseWord_74 ?_
        refine z_ki eX12_clauseWord_76 ?_
        refine z_ki eX12_clauseWord_78 ?_
        refine z_ki eX12_clauseWord_80 ?_
        refine zc_sj6 eX12_clauseWord_81 lX12_171 tX12_spelled (by decide) (Nat.le_of_ble_eq_true rfl) (r_spelled _ 112 97 105 114 115 0 (by decide)) ?_
        rintro _ _ ⟨rfl, rfl⟩ -
        rw [sp_pairs]
        refine zc_vi1 eX12_clauseWord_84 lX12_175 tX12_isWord zs117 (by decide) (Nat.le_of_ble_eq_true rfl) (r_isWord _ B L q hq T _ (kC_pos 10 (by decide))) ?_
        rintro _ _ ⟨rfl, rfl⟩ -
        refine z_ieq eX12_clauseWord_87 rfl (fun c87 => ?_) (fun c87 => ?_)
        · have z87 := iteF c87
          refine z_al0 eX12_clauseWord_92 ?_
          refine z_ki eX12_clauseWord_93 ?_
          refine z_ki eX12_clauseWord_95 ?_
          refine z_ki eX12_clauseWord_97 ?_
          refine z_ki eX12_clauseWord_99 ?_
          refine z_ki eX12_clauseWord_101 ?_
          refine z_ki eX12_clauseWord_102 ?_
          refine zc_sj6 eX12_clauseWord_103 lX12_171 tX12_spelled (by decide) (Nat.le_of_ble_eq_true rfl) (r_spelled _ 110 101 97 114 0 0 (by decide)) ?_
          rintro _ _ ⟨rfl, rfl⟩ -
          rw [sp_near]
          refine zc_vi1 eX12_clauseWord_106 lX12_175 tX12_isWord zs117 (by decide) (Nat.le_of_ble_eq_true rfl) (r_isWord _ B L q hq T _ (kC_pos 11 (by decide))) ?_
          rintro _ _ ⟨rfl, rfl⟩ -
          refine z_ieq eX12_clauseWord_109 rfl (fun c109 => ?_) (fun c109 => ?_)
          · have z109 := iteF c109
            refine z_al0 eX12_clauseWord_114 ?_
            refine z_ki eX12_clauseWord_115 ?_
            refine z_ki eX12_clauseWord_117 ?_
            refine z_ki eX12_clauseWord_119 ?_
            refine z_ki eX12_clauseWord_121 ?_
            refine z_ki eX12_clauseWord_122 ?_
            refine z_ki eX12_clauseWord_123 ?_
            refine zc_sj6 eX12_clauseWord_124 lX12_171 tX12_spelled (by decide) (Nat.le_of_ble_eq_true rfl) (r_spelled _ 98 97 114 0 0 0 (by decide)) ?_
            rintro _ _ ⟨rfl, rfl⟩ -
            rw [sp_bar]
            refine zc_vi1 eX12_clauseWord_127 lX12_175 tX12_isWord zs117 (by decide) (Nat.le_of_ble_eq_true rfl) (r_isWord _ B L q hq T _ (kC_pos 12 (by decide))) ?_
            rintro _ _ ⟨rfl, rfl⟩ -
            refine z_ieq eX12_clauseWord_130 rfl (fun c130 => ?_) (fun c130 => ?_)
            · have z130 := iteF c130
              refine z_ki eX12_clauseWord_137 ?_
              refine ze_i eX12_clauseWord_138 rfl ?_
              refine ⟨?_, rfl⟩
              unfold kdF
              rw [if_neg z18, if_neg z42, if_neg z64, if_neg z87, if_neg z109, if_neg z130]
            · have z130 := iteT c130
              refine z_ki eX12_clauseWord_133 ?_
              refine z_goto eX12_clauseWord_134 rfl ?_
              refine ze_i eX12_clauseWord_138 rfl ?_
              refine ⟨?_, rfl⟩
              unfold kdF
              rw [if_neg z18, if_neg z42, if_neg z64, if_neg z87, if_neg z109, if_pos z130]
          · have z109 := iteT c109
            refine z_ki eX12_clauseWord_112 ?_
            refine ze_i eX12_clauseWord_113 rfl ?_
            refine ⟨?_, rfl⟩
            unfold kdF
            rw [if_neg z18, if_neg z42, if_neg z64, if_neg z87, if_pos z109]
        · have z87 := iteT c87
          refine z_ki eX12_clauseWord_90 ?_
          refine ze_i eX12_clauseWord_91 rfl ?_
          refine ⟨?_, rfl⟩
          unfold kdF
          rw [if_neg z18, if_neg z42, if_neg z64, if_pos z87]
      · have z64 := iteT c64
        refine z_ki eX12_clauseWord_67 ?_
        refine ze_i eX12_clauseWord_68 rfl ?_
        refine ⟨?_, rfl⟩
        unfold kdF
        rw [if_neg z18, if_neg z42, if_pos z64]
    · have z42 := iteT c42
      refine z_ki eX12_clauseWord_45 ?_
      refine ze_i eX12_clauseWord_46 rfl ?_
      refine ⟨?_, rfl⟩
      unfold kdF
      rw [if_neg z18, if_pos z42]
  · have z18 := iteT c18
    refine z_ki eX12_clauseWord_21 ?_
    refine ze_i eX12_clauseWord_22 rfl ?_
    refine ⟨?_, rfl⟩
    unfold kdF
    rw [if_pos z18]
theorem r_rc_b3 (h0 h : zHp) (k : Int) (a : Nat) (X : mXs h0 k a h) (kd : Int) (c : Nat) (hc : c < 4) : zRW mX12_readClause 4 (0, 0) 132 [zA 117, zI kd, zI c] [] 143 h (zqv (fun h' => mXs h0 k a h')) := by
  refine z_al0 eX12_readClause_132 ?_
  refine z_al0 eX12_readClause_133 ?_
  refine z_gi eX12_readClause_134 fX12_149 zs117 ?_
  refine z_ki eX12_readClause_137 ?_
  refine z_cne eX12_readClause_138 rfl (fun c138 => ?_) (fun c138 => ?_)
  · refine z_ki eX12_readClause_145 ?_
    refine zc_vv1 eX12_readClause_146 lX12_238 tX12_must zs117 (by decide) (Nat.le_of_ble_eq_true rfl) (r_mustB _ X.b _) ?_
    rintro _ rfl
    refine z_al0 eX12_readClause_149 ?_
    refine z_ga eX12_readClause_150 fX12_35 zs117 (t := 122) rfl ?_
    refine z_ki eX12_readClause_153 ?_
    refine z_dup2 eX12_readClause_156 zn0 zn2 ?_
    refine zr_iN eX12_readClause_157 zs122 (j := 1200 + 240) (by omega) (by omega) ?_
    refine z_ki eX12_readClause_158 ?_
    refine z_iadd eX12_readClause_159 ?_
    refine zs_iN eX12_readClause_160 zs122 (j := 1200 + 240) (by omega) (by omega) ?_
    refine ze_v eX12_readClause_161 rfl ?_
    exact X.up2 (i := 240) _ (by omega)
  · refine z_ki eX12_readClause_141 ?_
    refine z_goto eX12_readClause_142 rfl ?_
    refine zc_vv1 eX12_readClause_146 lX12_238 tX12_must zs117 (by decide) (Nat.le_of_ble_eq_true rfl) (r_mustB _ X.b _) ?_
    rintro _ rfl
    refine z_al0 eX12_readClause_149 ?_
    refine z_ga eX12_readClause_150 fX12_35 zs117 (t := 122) rfl ?_
    refine z_ki eX12_readClause_153 ?_
    refine z_dup2 eX12_readClause_156 zn0 zn2 ?_
    refine zr_iN eX12_readClause_157 zs122 (j := 1200 + 240) (by omega) (by omega) ?_
    refine z_ki eX12_readClause_158 ?_
    refine z_iadd eX12_readClause_159 ?_
    refine zs_iN eX12_readClause_160 zs122 (j := 1200 + 240) (by omega) (by omega) ?_
    refine ze_v eX12_readClause_161 rfl ?_
    exact X.up2 (i := 240) _ (by omega)
theorem r_rc_b2 (h0 h : zHp) (k : Int) (a : Nat) (X : mXs h0 k a h) (kd : Int) (c : Nat) (hc : c < 4) : zRW mX12_readClause 4 (0, 0) 122 [zA 117, zI kd, zI c] [] 143 h (zqv (fun h' => mXs h0 k a h')) := by
  refine z_il1 eX12_readClause_122 ?_
  refine z_ki eX12_readClause_123 ?_
  refine z_cne eX12_readClause_124 rfl (fun c124 => ?_) (fun c124 => ?_)
  · exact r_rc_b3 h0 _ k a X kd c hc
  · refine z_al0 eX12_readClause_127 ?_
    refine z_il2 eX12_readClause_128 ?_
    refine zc_vv1 eX12_readClause_129 lX12_264 tX12_readPoints zs117 (by decide) (Nat.le_of_ble_eq_true rfl) (r_ptsB _ X.b c hc) ?_
    rintro _ rfl
    exact r_rc_b3 h0 _ k a (X.up2 (i := 249 + c) 0 (by omega)) kd c hc
theorem r_rc_b1 (h0 h : zHp) (k : Int) (a : Nat) (X : mXs h0 k a h) (kd : Int) (c : Nat) (hc : c < 4) : zRW mX12_readClause 4 (0, 0) 100 [zA 117, zI kd, zI c] [] 143 h (zqv (fun h' => mXs h0 k a h')) := by
  refine z_il1 eX12_readClause_100 ?_
  refine z_ki eX12_readClause_101 ?_
  refine z_cne eX12_readClause_102 rfl (fun c102 => ?_) (fun c102 => ?_)
  · exact r_rc_b2 h0 _ k a X kd c hc
  · refine z_al0 eX12_readClause_105 ?_
    refine z_ga eX12_readClause_106 fX12_35 zs117 (t := 122) rfl ?_
    refine z_ki eX12_readClause_109 ?_
    refine z_il2 eX12_readClause_112 ?_
    refine z_iaddN eX12_readClause_113 (by omega) (by omega) ?_
    refine z_al0 eX12_readClause_114 ?_
    refine z_ki eX12_readClause_115 ?_
    refine z_ki eX12_readClause_116 ?_
    refine zc_vi2 eX12_readClause_118 lX12_235 tX12_count zs117 (by decide) (Nat.le_of_ble_eq_true rfl) (r_countB _ X.b _ _) ?_
    rintro _ _ ⟨rfl, rfl⟩ -
    refine zs_iN eX12_readClause_121 zs122 (j := 1200 + (245 + c)) (by omega) (by omega) ?_
    exact r_rc_b2 h0 _ k a (X.up2 (i := 245 + c) 0 (by omega)) kd c hc
/-- the reference after a clause -/
def mC (h0 : zHp) (B : Nat → Int) (L q0 c : Nat) (R : Rh) (h : zHp) : Prop := match R with
  | .inl e => mXs h0 e.1 e.2 h
  | .inr s => q0 < s.1 ∧ mQ h0 B L s.1 s.2.1 s.2.2.1 s.2.2.2 h ∧ s.2.1 240 = (c : Int)
theorem mC_sg {h0 h : zHp} {B : Nat → Int} {L q q0 c : Nat} {D W : Nat → Int} {ht : Int} (hq : q0 ≤ q) (hqL : q ≤ L) (h24 : D 240 = (c : Int)) (h1 : tkK B L q = 3 → mQ h0 B L (tkE B L q) (up D 240 (D 240 + 1)) W ht h) (h2 : ¬ tkK B L q = 3 → mXs h0 (fK (tkK B L q) 2) (tkA B L q) h) : mC h0 B L q0 (c + 1) (bnd (sgF B L q D W ht) (adF W ht)) h := by
  unfold sgF
  by_cases z : tkK B L q = 3
  · rw [if_pos (sgK_b.2.2 z)]
    have kb := tk_b (B := B) hqL
    have k4 := kb.2.2.2.1 (by omega)
    refine ⟨by show q0 < tkE B L q; omega, h1 z, ?_⟩
    show up D 240 (D 240 + 1) 240 = ((c + 1 : Nat) : Int)
    rw [up_at]
    omega
  · rw [if_neg (fun y => z (sgK_b.2.1 y))]
    have : sgK B L q = fK (tkK B L q) 2 := if_neg z
    rw [this]
    exact h2 z
theorem r_rc_3 (h0 h : zHp) (B : Nat → Int) (L q q0 : Nat) (D W : Nat → Int) (ht : Int) (M : mQ h0 B L q D W ht h) (hq0 : q0 ≤ q) (kd : Int) (c : Nat) (hc : c < 4) (h24 : D 240 = (c : Int)) : zRW mX12_readClause 4 (0, 0) 132 [zA 117, zI kd, zI c] [] 143 h (zqv (fun h' => mC h0 B L q0 (c + 1) (bnd (sgF B L q D W ht) (adF W ht)) h')) := by
  have t14 := M.T.1
  refine z_al0 eX12_readClause_132 ?_
  refine z_al0 eX12_readClause_133 ?_
  refine z_gi eX12_readClause_134 fX12_149 zs117 ?_
  refine z_ki eX12_readClause_137 ?_
  refine z_cne eX12_readClause_138 rfl (fun c138 => ?_) (fun c138 => ?_)
  · refine z_ki eX12_readClause_145 ?_
    refine zc_vv1 eX12_readClause_146 lX12_238 tX12_must zs117 (by decide) (Nat.le_of_ble_eq_true rfl) (M.must _ (by first | exact Or.inl rfl | exact Or.inr rfl) (by omega)) ?_
    rintro g1 ⟨m1, m2⟩
    have X1 := m2 rfl
    refine z_al0 eX12_readClause_149 ?_
    refine z_ga eX12_readClause_150 fX12_35 zs117 (t := 122) rfl ?_
    refine z_ki eX12_readClause_153 ?_
    refine z_dup2 eX12_readClause_156 zn0 zn2 ?_
    refine zr_iN eX12_readClause_157 zs122 (j := 1200 + 240) (by omega) (by omega) ?_
    refine z_ki eX12_readClause_158 ?_
    refine z_iadd eX12_readClause_159 ?_
    refine zs_iN eX12_readClause_160 zs122 (j := 1200 + 240) (by omega) (by omega) ?_
    refine ze_v eX12_readClause_161 rfl ?_
    exact mC_sg hq0 M.hq h24 (fun z => by omega) (fun _ => X1.up2 (i := 240) _ (by omega))
  · refine z_ki eX12_readClause_141 ?_
    refine z_goto eX12_readClause_142 rfl ?_
    refine zc_vv1 eX12_readClause_146 lX12_238 tX12_must zs117 (by decide) (Nat.le_of_ble_eq_true rfl) (M.must _ (by first | exact Or.inl rfl | exact Or.inr rfl) (by omega)) ?_
    rintro g1 ⟨m1, m2⟩
    have M1 := m1 rfl
    refine z_al0 eX12_readClause_149 ?_
    refine z_ga eX12_readClause_150 fX12_35 zs117 (t := 122) rfl ?_
    refine z_ki eX12_readClause_153 ?_
    refine z_dup2 eX12_readClause_156 zn0 zn2 ?_
    refine zr_iN eX12_readClause_157 zs122 (j := 1200 + 240) (by omega) (by omega) ?_
    refine z_ki eX12_readClause_158 ?_
    refine z_iadd eX12_readClause_159 ?_
    rw [show g1 122 (1200 + 240) = D 240 from M1.c 240 (by omega), zw1 (by omega) (by omega)]
    refine zs_iN eX12_readClause_160 zs122 (j := 1200 + 240) (by omega) (by omega) ?_
    refine ze_v eX12_readClause_161 rfl ?_
    exact mC_sg hq0 M.hq h24 (fun _ => M1.up2 (i := 240) _ (by omega)) (fun z => by omega)
theorem r_rc_2 (h0 h : zHp) (B : Nat → Int) (L q q0 : Nat) (D W : Nat → Int) (ht : Int) (M : mQ h0 B L q D W ht h) (hq0 : q0 ≤ q) (kd : Int) (c : Nat) (hc : c < 4) (h24 : D 240 = (c : Int)) : zRW mX12_readClause 4 (0, 0) 122 [zA 117, zI kd, zI c] [] 143 h (zqv (fun h' => mC h0 B L q0 (c + 1) (bnd (c3F B L c W ht kd q D) (adF W ht)) h')) := by
  refine z_il1 eX12_readClause_122 ?_
  refine z_ki eX12_readClause_123 ?_
  refine z_cne eX12_readClause_124 rfl (fun c124 => ?_) (fun c124 => ?_)
  · have e : c3F B L c W ht kd q D = sgF B L q D W ht := if_neg c124
    rw [e]
    exact r_rc_3 h0 h B L q q0 D W ht M hq0 kd c hc h24
  · refine z_al0 eX12_readClause_127 ?_
    refine z_il2 eX12_readClause_128 ?_
    refine zc_vv1 eX12_readClause_129 lX12_264 tX12_readPoints zs117 (by decide) (Nat.le_of_ble_eq_true rfl) (r_pts h0 h B L q c D W ht M hc) ?_
    rintro g1 R1
    have e : c3F B L c W ht kd q D = ptF B L c W ht 9 0 q D := if_pos c124
    rw [e]
    rcases R1 with ⟨k, a, eR, X1⟩ | ⟨q2, D2, hq2, M2, e24, h3, hn3⟩
    · rw [eR]
      exact r_rc_b3 h0 g1 k a X1 kd c hc
    · have e2 : ptF B L c W ht 9 0 q D = sgF B L q2 D2 W ht := by
        unfold sgF
        by_cases z3 : tkK B L q2 = 3
        · rw [if_pos (sgK_b.2.2 z3)]; exact h3 z3
        · rw [if_neg (fun y => z3 (sgK_b.2.1 y)), hn3 z3]
          unfold sgK
          rw [if_neg z3]
      rw [e2]
      exact r_rc_3 h0 g1 B L q2 q0 D2 W ht M2 (by omega) kd c hc (by omega)
theorem r_rc_1 (h0 h : zHp) (B : Nat → Int) (L q q0 : Nat) (D W : Nat → Int) (ht : Int) (M : mQ h0 B L q D W ht h) (hq0 : q0 ≤ q) (kd : Int) (c : Nat) (hc : c < 4) (h24 : D 240 = (c : Int)) : zRW mX12_readClause 4 (0, 0) 100 [zA 117, zI kd, zI c] [] 143 h (zqv (fun h' => mC h0 B L q0 (c + 1) (bnd (c2F B L c W ht kd q D) (adF W ht)) h')) := by
  refine z_il1 eX12_readClause_100 ?_
  refine z_ki eX12_readClause_101 ?_
  refine z_cne eX12_readClause_102 rfl (fun c102 => ?_) (fun c102 => ?_)
  · have e : c2F B L c W ht kd q D = c3F B L c W ht kd q D := if_neg c102
    rw [e]
    exact r_rc_2 h0 h B L q q0 D W ht M hq0 kd c hc h24
  · refine z_al0 eX12_readClause_105 ?_
    refine z_ga eX12_readClause_106 fX12_35 zs117 (t := 122) rfl ?_
    refine z_ki eX12_readClause_109 ?_
    refine z_il2 eX12_readClause_112 ?_
    refine z_iaddN eX12_readClause_113 (by omega) (by omega) ?_
    refine z_al0 eX12_readClause_114 ?_
    refine z_ki eX12_readClause_115 ?_
    refine z_ki eX12_readClause_116 ?_
    refine zc_vi2 eX12_readClause_118 lX12_235 tX12_count zs117 (by decide) (Nat.le_of_ble_eq_true rfl) (M.cnt 0 99) ?_
    rintro v1 g1 ⟨p1, p2⟩ -
    refine zs_iN eX12_readClause_121 zs122 (j := 1200 + (245 + c)) (by omega) (by omega) ?_
    unfold c2F
    rw [if_pos c102]
    by_cases z9 : nuK B L q 0 99 = 0
    · have k2 := nuK_b.2.1 z9
      have kb := tk_b (B := B) M.hq
      obtain ⟨rfl, M1⟩ := p1 z9
      rw [if_pos z9]
      exact r_rc_2 h0 _ B L _ q0 _ W ht (M1.up2 (i := 245 + c) (tkV B L q) (by omega)) (by omega) kd c hc (by rw [up_ne (by omega)]; exact h24)
    · obtain ⟨rfl, X1⟩ := p2 z9
      rw [if_neg z9]
      exact r_rc_b2 h0 _ _ _ (X1.up2 (i := 245 + c) 0 (by omega)) kd c hc
theorem r_rc_0 (h0 h : zHp) (B : Nat → Int) (L q q0 : Nat) (D W : Nat → Int) (ht : Int) (M : mQ h0 B L q D W ht h) (hq0 : q0 ≤ q) (kd : Int) (c : Nat) (hc : c < 4) (h24 : D 240 = (c : Int)) : zRW mX12_readClause 4 (0, 0) 78 [zA 117, zI kd, zI c] [] 143 h (zqv (fun h' => mC h0 B L q0 (c + 1) (bnd (c1F B L c W ht kd q D) (adF W ht)) h')) := by
  refine z_il1 eX12_readClause_78 ?_
  refine z_ki eX12_readClause_79 ?_
  refine z_cne eX12_readClause_80 rfl (fun c80 => ?_) (fun c80 => ?_)
  · have e : c1F B L c W ht kd q D = c2F B L c W ht kd q D := if_neg c80
    rw [e]
    exact r_rc_1 h0 h B L q q0 D W ht M hq0 kd c hc h24
  · refine z_al0 eX12_readClause_83 ?_
    refine z_ga eX12_readClause_84 fX12_35 zs117 (t := 122) rfl ?_
    refine z_ki eX12_readClause_87 ?_
    refine z_il2 eX12_readClause_90 ?_
    refine z_iaddN eX12_readClause_91 (by omega) (by omega) ?_
    refine z_al0 eX12_readClause_92 ?_
    refine z_ki eX12_readClause_93 ?_
    refine z_ki eX12_readClause_94 ?_
    refine zc_vi2 eX12_readClause_96 lX12_235 tX12_count zs117 (by decide) (Nat.le_of_ble_eq_true rfl) (M.cnt 1 8) ?_
    rintro v1 g1 ⟨p1, p2⟩ -
    refine zs_iN eX12_readClause_99 zs122 (j := 1200 + (245 + c)) (by omega) (by omega) ?_
    unfold c1F
    rw [if_pos c80]
    by_cases z9 : nuK B L q 1 8 = 0
    · have k2 := nuK_b.2.1 z9
      have kb := tk_b (B := B) M.hq
      obtain ⟨rfl, M1⟩ := p1 z9
      rw [if_pos z9]
      exact r_rc_1 h0 _ B L _ q0 _ W ht (M1.up2 (i := 245 + c) (tkV B L q) (by omega)) (by omega) kd c hc (by rw [up_ne (by omega)]; exact h24)
    · obtain ⟨rfl, X1⟩ := p2 z9
      rw [if_neg z9]
      exact r_rc_b1 h0 _ _ _ (X1.up2 (i := 245 + c) 0 (by omega)) kd c hc
theorem r_readClause (h0 h : zHp) (B : Nat → Int) (L q : Nat) (D W : Nat → Int) (ht : Int) (M : mQ h0 B L q D W ht h) (c : Nat) (hc : c ≤ 4) (h24 : D 240 = (c : Int)) : zCv mX12_readClause 4 [zA 117] h (fun h' => mC h0 B L q (c + 1) (if kdF B L q = -1 then .inl (fK (tkK B L q) 2, tkA B L q) else if c = 4 then .inl (6, tkA B L q) else clF B L c q D W ht) h') := by
  refine z_enter [zA 117, zU, zU] (by decide +kernel) (Nat.le_of_ble_eq_true rfl) rfl (fun hra hrg => ?_)
  have hb := M.hb
  have kd := kdF_b (B := B) (L := L) (q := q)
  have kb := tk_b (B := B) M.hq
  have e24 : h 122 1440 = (c : Int) := (M.c 240 (by omega)).trans h24
  refine z_al0 eX12_readClause_0 ?_
  refine zc_vi0 eX12_readClause_1 lX12_261 tX12_clauseWord zs117 (by decide) (Nat.le_of_ble_eq_true rfl) (r_clauseWord _ B L q M.hq M.T) ?_
  rintro _ _ ⟨rfl, rfl⟩ -
  refine z_is1 eX12_readClause_4 zn2 ?_
  refine z_il1 eX12_readClause_5 ?_
  refine z_ige eX12_readClause_6 rfl (fun c6 => ?_) (fun c6 => ?_)
  · refine z_al0 eX12_readClause_13 ?_
    refine z_ga eX12_readClause_14 fX12_35 zs117 (t := 122) rfl ?_
    refine z_ki eX12_readClause_17 ?_
    refine zr_iN eX12_readClause_20 zs122 (j := 1440) (by omega) (by omega) ?_
    rw [e24]
    refine z_is2 eX12_readClause_21 zn0 ?_
    refine z_al0 eX12_readClause_22 ?_
    refine z_gi eX12_readClause_23 fX12_201 zs117 ?_
    refine z_ine eX12_readClause_26 rfl (fun c26 => ?_) (fun c26 => ?_)
    · exact absurd hb c26
    · refine z_il2 eX12_readClause_29 ?_
      refine z_ki eX12_readClause_30 ?_
      refine z_cne eX12_readClause_31 rfl (fun c31 => ?_) (fun c31 => ?_)
      · refine z_al0 eX12_readClause_44 ?_
        refine z_gi eX12_readClause_45 fX12_201 zs117 ?_
        refine z_ile eX12_readClause_48 rfl (fun c48 => ?_) (fun c48 => ?_)
        · refine z_al0 eX12_readClause_52 ?_
          refine zc_vv0 eX12_readClause_53 lX12_211 tX12_next zs117 (by decide) (Nat.le_of_ble_eq_true rfl) (M.next (by have := kd.2.2 (by omega); omega)) ?_
          rintro g1 M1
          refine z_al0 eX12_readClause_56 ?_
          refine z_ga eX12_readClause_57 fX12_35 zs117 (t := 122) rfl ?_
          refine z_ki eX12_readClause_60 ?_
          refine z_il2 eX12_readClause_63 ?_
          refine z_iaddN eX12_readClause_64 (by omega) (by omega) ?_
          refine z_il1 eX12_readClause_65 ?_
          refine zs_iN eX12_readClause_66 zs122 (j := 1200 + (241 + c)) (by omega) (by omega) ?_
          refine z_al0 eX12_readClause_67 ?_
          refine z_ga eX12_readClause_68 fX12_35 zs117 (t := 122) rfl ?_
          refine z_ki eX12_readClause_71 ?_
          refine z_il2 eX12_readClause_74 ?_
          refine z_iaddN eX12_readClause_75 (by omega) (by omega) ?_
          refine z_ki eX12_readClause_76 ?_
          refine zs_iN eX12_readClause_77 zs122 (j := 1200 + (249 + c)) (by omega) (by omega) ?_
          rw [if_neg (by omega), if_neg (by omega)]
          unfold clF
          have M2 := (M1.up2 (i := 241 + c) (kdF B L q) (by omega)).up2 (i := 249 + c) 0 (by omega)
          exact r_rc_0 h0 _ B L _ q _ W ht M2 (by omega) _ c (by omega) (by rw [up_ne (by omega), up_ne (by omega)]; exact h24)
        · exfalso; omega
      · refine z_al0 eX12_readClause_34 ?_
        refine z_ki eX12_readClause_35 ?_
        refine z_al0 eX12_readClause_37 ?_
        refine z_gi eX12_readClause_38 fX12_143 zs117 ?_
        rw [M.T.2.1]
        refine zc_vv2 eX12_readClause_41 lX12_207 tX12_fail zs117 (by decide) (Nat.le_of_ble_eq_true rfl) (M.fail 6 (by decide)) ?_
        rintro g1 X1
        have xb := X1.b
        refine z_al0 eX12_readClause_44 ?_
        refine z_gi eX12_readClause_45 fX12_201 zs117 ?_
        refine z_ile eX12_readClause_48 rfl (fun c48 => ?_) (fun c48 => ?_)
        · exfalso; omega
        · refine ze_v eX12_readClause_51 rfl ?_
          rw [if_neg (by omega), if_pos (by omega)]
          exact X1
  · refine z_al0 eX12_readClause_9 ?_
    refine zc_vv0 eX12_readClause_10 lX12_214 tX12_wrong zs117 (by decide) (Nat.le_of_ble_eq_true rfl) M.wrong ?_
    rintro g1 X1
    have xb := X1.b
    refine z_al0 eX12_readClause_13 ?_
    refine z_ga eX12_readClause_14 fX12_35 zs117 (t := 122) rfl ?_
    refine z_ki eX12_readClause_17 ?_
    refine zr_iN eX12_readClause_20 zs122 (j := 1440) (by omega) (by omega) ?_
    refine z_is2 eX12_readClause_21 zn0 ?_
    refine z_al0 eX12_readClause_22 ?_
    refine z_gi eX12_readClause_23 fX12_201 zs117 ?_
    refine z_ine eX12_readClause_26 rfl (fun c26 => ?_) (fun c26 => ?_)
    · refine z_al0 eX12_readClause_44 ?_
      refine z_gi eX12_readClause_45 fX12_201 zs117 ?_
      refine z_ile eX12_readClause_48 rfl (fun c48 => ?_) (fun c48 => ?_)
      · exfalso; omega
      · refine ze_v eX12_readClause_51 rfl ?_
        rw [if_pos (by omega)]
        exact X1
    · exfalso; omega
/-- what the reference's rule comes to -/
def mRu (h0 : zHp) (B : Nat → Int) (L : Nat) (R : Rh) (v : Int) (h : zHp) : Prop := match R with
  | .inl e => (-1 : Int) = v ∧ ∃ g, mXs h0 e.1 e.2 g ∧ zup (zup (zup g 117 10 e.1) 117 11 (e.2 : Int)) 117 0 10 = h
  | .inr s => s.2.1 240 = v ∧ ∃ g, mQ h0 B L s.1 s.2.1 s.2.2.1 s.2.2.2 g ∧ zcp (zup (zup g 117 10 0) 117 11 (-1)) 122 1440 122 240 50 = h
theorem r_ru_c (g : zHp) (n : Int) : ∀ (r k : Nat), k + r = 50 → zRW mX12_rule 5 (0, 0) 66 [zA 117, zI n, zI (240 + k : Nat)] [] 143 (zcp g 122 1440 122 240 k) (zqi (fun v h' => g 122 1440 = v ∧ zcp g 122 1440 122 240 50 = h')) := by
  intro r
  induction r using Nat.strongRecOn with
  | ind r ih =>
    intro k hk
    refine z_il2 eX12_rule_66 ?_
    refine z_ki eX12_rule_67 ?_
    refine z_cge eX12_rule_70 rfl (fun c70 => ?_) (fun c70 => ?_)
    · refine z_al0 eX12_rule_95 ?_
      refine z_ga eX12_rule_96 fX12_35 zs117 (t := 122) rfl ?_
      refine z_ki eX12_rule_99 ?_
      refine zr_iN eX12_rule_102 zs122 (j := 240) (by omega) (by omega) ?_
      refine ze_i eX12_rule_103 rfl ?_
      have e : k = 50 := by omega
      subst e
      refine ⟨?_, rfl⟩
      rw [zcp_rd, if_pos ⟨rfl, by omega, by omega⟩]
    · refine z_al0 eX12_rule_73 ?_
      refine z_ga eX12_rule_74 fX12_35 zs117 (t := 122) rfl ?_
      refine z_il2 eX12_rule_77 ?_
      refine z_al0 eX12_rule_78 ?_
      refine z_ga eX12_rule_79 fX12_35 zs117 (t := 122) rfl ?_
      refine z_ki eX12_rule_82 ?_
      refine z_il2 eX12_rule_85 ?_
      refine z_iaddN eX12_rule_86 (by omega) (by omega) ?_
      refine zr_iN eX12_rule_87 zs122 (j := 1440 + k) (by omega) (by omega) ?_
      rw [zcp_rd, if_neg (by omega)]
      refine zs_iN eX12_rule_88 zs122 (j := 240 + k) (by omega) (by omega) ?_
      refine z_incN2 eX12_rule_89 zn0 (by omega) (by omega) ?_
      refine z_goto eX12_rule_92 rfl ?_
      rw [zcp_s rfl]
      exact ih (r - 1) (by omega) (k + 1) (by omega)
theorem r_ru_b (h0 : zHp) (B : Nat → Int) (L : Nat) (n : Int) (k : Int) (a : Nat) (g : zHp) (X : mXs h0 k a g) : zRW mX12_rule 5 (0, 0) 32 [zA 117, zI n, zU] [] 143 g (zqi (fun v h' => mRu h0 B L (.inl (k, a)) v h')) := by
  refine z_al0 eX12_rule_32 ?_
  refine z_gi eX12_rule_33 fX12_201 zs117 ?_
  refine z_ine eX12_rule_36 rfl (fun c36 => ?_) (fun c36 => ?_)
  · refine z_al0 eX12_rule_53 ?_
    refine zc_vi0 eX12_rule_54 lX12_258 tX12_isWell zs117 (by decide) (Nat.le_of_ble_eq_true rfl) (r_wellN _ k a X.2.1 X.2.2.1 X.2.2.2) ?_
    rintro _ _ ⟨rfl, rfl⟩ -
    refine z_ine eX12_rule_57 rfl (fun c57 => ?_) (fun c57 => ?_)
    · exact absurd rfl c57
    · refine z_ki eX12_rule_60 ?_
      refine ze_i eX12_rule_61 rfl ?_
      exact ⟨rfl, g, X, rfl⟩
  · have := X.b; omega
theorem r_ru_e (h0 : zHp) (B : Nat → Int) (L q : Nat) (D W : Nat → Int) (n ht : Int) (g : zHp) (M : mQ h0 B L q D W ht g) : zRW mX12_rule 5 (0, 0) 53 [zA 117, zI n, zU] [] 143 g (zqi (fun v h' => mRu h0 B L (.inr (q, D, W, ht)) v h')) := by
  refine z_al0 eX12_rule_53 ?_
  refine zc_vi0 eX12_rule_54 lX12_258 tX12_isWell zs117 (by decide) (Nat.le_of_ble_eq_true rfl) (r_wellY _ M.hb) ?_
  rintro _ _ ⟨rfl, rfl⟩ -
  refine z_ine eX12_rule_57 rfl (fun c57 => ?_) (fun c57 => ?_)
  · refine z_ki eX12_rule_62 ?_
    refine z_is2 eX12_rule_65 zn0 ?_
    have z := r_ru_c (zup (zup g 117 10 0) 117 11 (-1)) n 50 0 (by omega)
    rw [zcp_0] at z
    refine z_wki z (fun v f y => ⟨?_, g, M, y.2⟩)
    rw [← y.1, zup_off (by decide), zup_off (by decide)]
    exact (M.c 240 (by omega)).symm
  · exact absurd c57 (by decide)
theorem clF_w {B : Nat → Int} {L c q : Nat} {D W : Nat → Int} {ht : Int} : ∀ s, clF B L c q D W ht = .inr s → s.2.2 = (W, ht) := by
  intro s e
  unfold clF at e
  generalize c1F B L c W ht (kdF B L q) (tkE B L q) (up (up D (241 + c) (kdF B L q)) (249 + c) 0) = R at e
  cases R with
  | inl x => cases e
  | inr t =>
    have e2 : (Sum.inr (t.1, up t.2.1 240 (t.2.1 240 + 1), W, ht) : Rh) = .inr s := e
    injection e2 with e3
    rw [← e3]
theorem r_ru_l (h0 : zHp) (B : Nat → Int) (L : Nat) (n ht : Int) (W : Nat → Int) : ∀ (f c q : Nat) (D : Nat → Int) (g : zHp), c + f = 5 → c ≤ 4 → mQ h0 B L q D W ht g → D 240 = (c : Int) → zRW mX12_rule 5 (0, 0) 32 [zA 117, zI n, zU] [] 143 g (zqi (fun v h' => mRu h0 B L (ruF B L W ht f c q D) v h')) := by
  intro f
  induction f with
  | zero => intro c q D g hf; omega
  | succ f ih =>
    intro c q D g hf hc M h24
    have hb := M.hb
    have t14 := M.T.1
    refine z_al0 eX12_rule_32 ?_
    refine z_gi eX12_rule_33 fX12_201 zs117 ?_
    refine z_ine eX12_rule_36 rfl (fun c36 => ?_) (fun c36 => ?_)
    · exact absurd hb c36
    · refine z_al0 eX12_rule_39 ?_
      refine z_gi eX12_rule_40 fX12_149 zs117 ?_
      refine z_ieq eX12_rule_43 rfl (fun c43 => ?_) (fun c43 => ?_)
      · have eH : ruF B L W ht (f + 1) c q D = .inr (q, D, W, ht) := by rw [ruF, if_pos (by omega)]
        rw [eH]
        exact r_ru_e h0 B L q D W n ht g M
      · refine z_al0 eX12_rule_46 ?_
        refine zc_vv0 eX12_rule_47 lX12_269 tX12_readClause zs117 (by decide) (Nat.le_of_ble_eq_true rfl) (r_readClause h0 g B L q D W ht M c hc h24) ?_
        rintro g1 R1
        refine z_goto eX12_rule_50 rfl ?_
        have eH : ruF B L W ht (f + 1) c q D = bnd (if kdF B L q = -1 then .inl (fK (tkK B L q) 2, tkA B L q) else if c = 4 then .inl (6, tkA B L q) else clF B L c q D W ht) (fun s => ruF B L W ht f (c + 1) s.1 s.2.1) := by
          rw [ruF, if_neg (by omega)]
          split
          · rfl
          · split
            · rfl
            · rfl
        have hc4 : c = 4 → ∃ e, (if kdF B L q = -1 then .inl (fK (tkK B L q) 2, tkA B L q) else if c = 4 then .inl (6, tkA B L q) else clF B L c q D W ht : Rh) = .inl e := fun z => by
          rw [if_pos z]
          split
          · exact ⟨_, rfl⟩
          · exact ⟨_, rfl⟩
        have hWt : ∀ s, clF B L c q D W ht = .inr s → s.2.2 = (W, ht) := clF_w
        rw [eH]
        by_cases y1 : kdF B L q = -1
        · rw [if_pos y1] at R1 ⊢
          exact r_ru_b h0 B L n _ _ g1 R1
        · rw [if_neg y1] at R1 ⊢
          by_cases y2 : c = 4
          · rw [if_pos y2] at R1 ⊢
            exact r_ru_b h0 B L n _ _ g1 R1
          · rw [if_neg y2] at R1 ⊢
            generalize clF B L c q D W ht = R at R1 hWt ⊢
            rcases R with e | s
            · exact r_ru_b h0 B L n e.1 e.2 g1 R1
            · obtain ⟨s1, s2, s3⟩ := R1
              have w := hWt s rfl
              rw [w] at s2
              exact ih (c + 1) s.1 s.2.1 g1 (by omega) (by omega) s2 s3
theorem r_ruleN (h : zHp) (n : Int) (hc : n < 0 ∨ h 117 8 < n ∨ 200 < n) : zCi mX12_rule 5 [zA 117, zI n] h (fun v h' => pM0 h (-1, 5) v h') := by
  refine z_enter [zA 117, zI n, zU] (by decide +kernel) (Nat.le_of_ble_eq_true rfl) rfl (fun hra hrg => ?_)
  refine z_al0 eX12_rule_0 ?_
  refine z_ki eX12_rule_1 ?_
  refine z_pi eX12_rule_2 pX12_98 zs117 ?_
  refine z_al0 eX12_rule_5 ?_
  refine z_ki eX12_rule_6 ?_
  refine z_pi eX12_rule_7 pX12_101 zs117 ?_
  generalize hg : zup (zup h 117 1 0) 117 0 0 = g
  obtain ⟨ga, gf, g0⟩ := m_g hg
  refine z_al0 eX12_rule_10 ?_
  refine z_il1 eX12_rule_11 ?_
  refine z_ki eX12_rule_12 ?_
  refine zc_vi2 eX12_rule_15 lX12_245 tX12_opens zs117 (by decide) (Nat.le_of_ble_eq_true rfl) (r_opensN _ _ _ (by rw [gf 8 (by decide) (by decide)]; exact hc)) ?_
  rintro _ _ ⟨rfl, rfl⟩ -
  refine z_ine eX12_rule_18 rfl (fun c18 => ?_) (fun c18 => ?_)
  · exact absurd rfl c18
  · refine z_ki eX12_rule_21 ?_
    refine ze_i eX12_rule_22 rfl ?_
    exact pM0_fr hg zMf.rf rfl
def nwR (h : zHp) : Nat → Int := up (fun j => h 122 (1200 + j)) 240 0
theorem r_ruleY (h : zHp) (B : Nat → Int) (L : Nat) (hL : (L : Int) ≤ h 117 8) (h200 : L ≤ 200) (hBy : ∀ i : Nat, i < L → h 121 i = B i ∧ -128 ≤ B i ∧ B i ≤ 127) : zCi mX12_rule 5 [zA 117, zI L] h (fun v h' => ∃ g, opP (zup (zup h 117 1 0) 117 0 0) B L g ∧ mRu g B L (ruF B L (nwW h) (h 117 70) 5 0 0 (nwR h)) v h') := by
  refine z_enter [zA 117, zI L, zU] (by decide +kernel) (Nat.le_of_ble_eq_true rfl) rfl (fun hra hrg => ?_)
  refine z_al0 eX12_rule_0 ?_
  refine z_ki eX12_rule_1 ?_
  refine z_pi eX12_rule_2 pX12_98 zs117 ?_
  refine z_al0 eX12_rule_5 ?_
  refine z_ki eX12_rule_6 ?_
  refine z_pi eX12_rule_7 pX12_101 zs117 ?_
  generalize hg : zup (zup h 117 1 0) 117 0 0 = g
  obtain ⟨ga, gf, g0⟩ := m_g hg
  have hBy2 : ∀ i : Nat, i < L → g 121 i = B i ∧ -128 ≤ B i ∧ B i ≤ 127 := fun i hi => by rw [ga 121 (by decide)]; exact hBy i hi
  refine z_al0 eX12_rule_10 ?_
  refine z_il1 eX12_rule_11 ?_
  refine z_ki eX12_rule_12 ?_
  refine zc_vi2 eX12_rule_15 lX12_245 tX12_opens zs117 (by decide) (Nat.le_of_ble_eq_true rfl) (r_opensY g B L 200 (by rw [gf 8 (by decide) (by decide)]; exact hL) (by omega) (by omega) hBy2) ?_
  rintro _ g1 ⟨rfl, O⟩ -
  refine z_ine eX12_rule_18 rfl (fun c18 => ?_) (fun c18 => ?_)
  · refine z_al0 eX12_rule_23 ?_
    refine z_ga eX12_rule_24 fX12_35 zs117 (t := 122) rfl ?_
    refine z_ki eX12_rule_27 ?_
    refine z_ki eX12_rule_30 ?_
    refine zs_iN eX12_rule_31 zs122 (j := 1200 + 240) (by omega) (by omega) ?_
    have M := (O.mQ (by omega) hBy2).up2 (i := 240) 0 (by omega)
    have eW : nwW g = nwW h := by unfold nwW; rw [ga 123 (by decide)]
    have e70 : g1 117 70 = h 117 70 := by rw [O.2.1 70 (by decide) (by decide) (by decide), gf 70 (by decide) (by decide)]
    have eR : up (fun j => g 122 (1200 + j)) 240 0 = nwR h := by unfold nwR; rw [ga 122 (by decide)]
    rw [eW, e70, eR] at M
    refine z_wki (r_ru_l g1 B L L (h 117 70) (nwW h) 5 0 0 (nwR h) _ (by omega) (by omega) M (by unfold nwR; rw [up_at]; rfl)) (fun v f y => ⟨g1, O, y⟩)
  · exact absurd c18 (by decide)
