-- the reference sifts by a clause (written by wip/tools/specM4.py)
def beatF (D w : Nat → Int) (set a : Nat) : Nat → Nat → Bool
  | 0, _ => true
  | r + 1, b => (decide (b = a) || !set.testBit b || decide (0 < moreOf D w a b)) && beatF D w set a r (b + 1)
def pairF (D w : Nat → Int) (set : Nat) : Nat → Nat → Nat
  | 0, _ => set
  | r + 1, a => if set.testBit a = true ∧ beatF D w set a (nN D) 0 = true then 2 ^ a else pairF D w set r (a + 1)
def pairOf (D w : Nat → Int) (set : Nat) : Nat := pairF D w set (nN D) 0
def barP (D w : Nat → Int) (V : Int) (set : Nat) (n : Int) : Nat → Bool := fun k => set.testBit k && decide (n * V ≤ 100 * fstOf D w k set)
def barOf (D w : Nat → Int) (V : Int) (set : Nat) (n : Int) : Nat := if pickN (barP D w V set n) (nN D) = 0 then set else pickN (barP D w V set n) (nN D)
def eachP (D : Nat → Int) (c : Nat) (p : Int) : Int := if D (241 + c) = 0 then (if p = 0 then 1 else 0) else if D (241 + c) = 4 then (if p < D (245 + c) then 1 else 0) else if p < D (249 + c) then D (253 + 8 * c + p.toNat) else 0
def ptsS (D w : Nat → Int) (set c k : Nat) : Nat → Int := fun s => eachP D c (plc D s k set) * w s
def cntP (D w : Nat → Int) (set c : Nat) : Nat → Int := fun k => if set.testBit k = true then sumN (ptsS D w set c k) (nS D) else 0
def siftOf (D w : Nat → Int) (V : Int) (set c : Nat) : Nat := if set = 0 then 0 else if D (241 + c) = 2 then runOf D w V set else if D (241 + c) = 3 then pairOf D w set else if D (241 + c) = 5 then barOf D w V set (D (245 + c)) else greatOf (cntP D w set c) set (nN D)
theorem zup_zup (h : zHp) (a i : Nat) (v v' : Int) : zup (zup h a i v) a i v' = zup h a i v' := by
  funext a' i'
  unfold zup
  split <;> rfl
theorem bestN_congr {c c' : Nat → Int} (set n : Nat) (h : ∀ k, k < n → c k = c' k) : bestN c set n = bestN c' set n := by
  induction n with
  | zero => rfl
  | succ n ih => rw [bestN, bestN, ih (fun k hk => h k (by omega)), h n (by omega)]
theorem pickN_congr {p p' : Nat → Bool} (n : Nat) (h : ∀ k, k < n → p k = p' k) : pickN p n = pickN p' n := by
  induction n with
  | zero => rfl
  | succ n ih => rw [pickN, pickN, ih (fun k hk => h k (by omega)), h n (by omega)]
theorem greatOf_congr {c c' : Nat → Int} (set n : Nat) (h : ∀ k, k < n → c k = c' k) : greatOf c set n = greatOf c' set n := by
  unfold greatOf
  exact pickN_congr n (fun k hk => by unfold grtP; rw [h k hk, bestN_congr set n h])
theorem plc_b {D : Nat → Int} (hb : dB D) (s : Nat) (name : Int) (set : Nat) : 0 ≤ plc D s name set ∧ plc D s name set ≤ 8 := by
  have := plcF_b D s name set (nN D) 0
  have := nN_le hb
  unfold plc
  omega
theorem eachP_b {D : Nat → Int} (hb : dB D) {c : Nat} (hc : c < 4) {p : Int} (h0 : 0 ≤ p) : 0 ≤ eachP D c p ∧ eachP D c p ≤ 99 := by
  obtain ⟨h1, h2, h3, h4, h5, h6, h7⟩ := hb.2.2.2.2.2.2.2 c hc
  unfold eachP
  split
  · split <;> omega
  · split
    · split <;> omega
    · split
      · have := h7 p.toNat (by omega)
        omega
      · omega
theorem ptsS_b {D w : Nat → Int} (hb : dB D) (hv : vB D w) {c : Nat} (hc : c < 4) (set k s : Nat) (hs : s < nS D) : 0 ≤ ptsS D w set c k s ∧ ptsS D w set c k s ≤ 19602 := by
  have h1 := eachP_b hb hc (plc_b hb s k set).1
  have h2 := hv s hs
  unfold ptsS
  refine ⟨Int.mul_nonneg h1.1 h2.1, ?_⟩
  have h3 := Int.mul_le_mul h1.2 h2.2 h2.1 (by omega)
  omega
theorem r_sift_pb (h : zHp) (D w : Nat → Int) (hD : h 122 = D) (hw : h 124 = w) (hb : dB D) (hvb : vB D w) (set : Nat) (hset : set < 256) (c : Nat) (kd nn : Int) (a : Nat) (ha : a < nN D) (Q : Int → zHp → Prop) : ∀ (r b : Nat) (x : Int), b + r = nN D → (x = 0 ∨ x = 1) → (∀ (y : Int) (b' : Nat), y = (if x = 1 ∧ beatF D w set a r b = true then 1 else 0) → zRW mX12_sift 4 (0, 0) 135 [zA 117, zI set, zI c, zI kd, zI nn, zI a, zI y, zI b', zU] [] 143 h (zqi Q)) → zRW mX12_sift 4 (0, 0) 79 [zA 117, zI set, zI c, zI kd, zI nn, zI a, zI x, zI b, zU] [] 143 h (zqi Q) := by
  intro r
  induction r using Nat.strongRecOn with
  | ind r ih =>
    intro b x hbr hx kk
    have hN := nN_eq hb
    have hN8 := nN_le hb
    have hgN : h 122 0 = (nN D : Int) := by rw [hD]; exact hN
    refine z_il7 eX12_sift_79 ?_
    refine z_al0 eX12_sift_81 ?_
    refine z_ga eX12_sift_82 fX12_35 zs117 (t := 122) rfl ?_
    refine z_ki eX12_sift_85 ?_
    refine zr_iN eX12_sift_86 zs122 (j := 0) (by omega) (by omega) ?_
    refine z_cge eX12_sift_87 rfl (fun c87 => ?_) (fun c87 => ?_)
    · have e : r = 0 := by omega
      subst e
      exact kk x b (by rcases hx with e | e <;> simp [e, beatF])
    · obtain ⟨q, rfl⟩ : ∃ q, r = q + 1 := ⟨r - 1, by omega⟩
      refine z_il6 eX12_sift_90 ?_
      refine z_ieq eX12_sift_92 rfl (fun c92 => ?_) (fun c92 => ?_)
      · exact kk x b (by rw [c92]; simp)
      · refine z_il7 eX12_sift_95 ?_
        refine z_il5 eX12_sift_97 ?_
        refine z_ceq eX12_sift_99 rfl (fun c99 => ?_) (fun c99 => ?_)
        · refine z_ki eX12_sift_122 ?_
          refine z_goto eX12_sift_123 rfl ?_
          refine z_is6 eX12_sift_127 zn0 ?_
          refine z_incN7 eX12_sift_129 zn0 (by omega) (by omega) ?_
          refine z_goto eX12_sift_132 rfl ?_
          have hx1 : x = 1 := by omega
          subst hx1
          exact ih q (by omega) (b + 1) 1 (by omega) (Or.inr rfl) (fun y b' hy => kk y b' (by rw [hy, beatF]; simp [(by omega : b = a)]))
        · refine z_il1 eX12_sift_102 ?_
          refine z_il7 eX12_sift_103 ?_
          refine z_ishr eX12_sift_105 ?_
          refine z_ki eX12_sift_106 ?_
          refine z_iand eX12_sift_107 ?_
          refine z_ieq eX12_sift_108 rfl (fun c108 => ?_) (fun c108 => ?_)
          · refine z_ki eX12_sift_122 ?_
            refine z_goto eX12_sift_123 rfl ?_
            refine z_is6 eX12_sift_127 zn0 ?_
            refine z_incN7 eX12_sift_129 zn0 (by omega) (by omega) ?_
            refine z_goto eX12_sift_132 rfl ?_
            rw [kb_b0 (by omega) (by omega)] at c108
            have hx1 : x = 1 := by omega
            subst hx1
            exact ih q (by omega) (b + 1) 1 (by omega) (Or.inr rfl) (fun y b' hy => kk y b' (by rw [hy, beatF]; simp [c108]))
          · refine z_al0 eX12_sift_111 ?_
            refine z_il5 eX12_sift_112 ?_
            refine z_il7 eX12_sift_114 ?_
            refine zc_vi2 eX12_sift_116 lX12_308 tX12_more zs117 (by decide) (Nat.le_of_ble_eq_true rfl) (r_more _ _ _ hD hw hb hvb a b (by omega) (by omega)) ?_
            rintro _ _ ⟨rfl, rfl⟩ -
            refine z_ile eX12_sift_119 rfl (fun c119 => ?_) (fun c119 => ?_)
            · refine z_ki eX12_sift_126 ?_
              refine z_is6 eX12_sift_127 zn0 ?_
              refine z_incN7 eX12_sift_129 zn0 (by omega) (by omega) ?_
              refine z_goto eX12_sift_132 rfl ?_
              rw [kb_b0 (by omega) (by omega)] at c108
              have hx1 : x = 1 := by omega
              subst hx1
              have z1 : ¬ b = a := by omega
              have z2 : ¬ 0 < moreOf D w a b := by omega
              exact ih q (by omega) (b + 1) 0 (by omega) (Or.inl rfl) (fun y b' hy => kk y b' (by rw [hy, beatF]; simp [z1, c108, z2]))
            · refine z_ki eX12_sift_122 ?_
              refine z_goto eX12_sift_123 rfl ?_
              refine z_is6 eX12_sift_127 zn0 ?_
              refine z_incN7 eX12_sift_129 zn0 (by omega) (by omega) ?_
              refine z_goto eX12_sift_132 rfl ?_
              rw [kb_b0 (by omega) (by omega)] at c108
              have hx1 : x = 1 := by omega
              subst hx1
              exact ih q (by omega) (b + 1) 1 (by omega) (Or.inr rfl) (fun y b' hy => kk y b' (by rw [hy, beatF]; simp [(by omega : 0 < moreOf D w a b)]))
theorem r_sift_pa (h : zHp) (D w : Nat → Int) (hD : h 122 = D) (hw : h 124 = w) (hb : dB D) (hvb : vB D w) (set : Nat) (hset : set < 256) (c : Nat) (kd nn : Int) : ∀ (r a : Nat), a + r = nN D → zRW mX12_sift 4 (0, 0) 48 [zA 117, zI set, zI c, zI kd, zI nn, zI a, zU, zU, zU] [] 143 h (zqi (fun v h' => (pairF D w set r a : Int) = v ∧ zFr 125 h h')) := by
  intro r
  induction r using Nat.strongRecOn with
  | ind r ih =>
    intro a har
    have hN := nN_eq hb
    have hN8 := nN_le hb
    have hgN : h 122 0 = (nN D : Int) := by rw [hD]; exact hN
    refine z_il5 eX12_sift_48 ?_
    refine z_al0 eX12_sift_50 ?_
    refine z_ga eX12_sift_51 fX12_35 zs117 (t := 122) rfl ?_
    refine z_ki eX12_sift_54 ?_
    refine zr_iN eX12_sift_55 zs122 (j := 0) (by omega) (by omega) ?_
    refine z_cge eX12_sift_56 rfl (fun c56 => ?_) (fun c56 => ?_)
    · refine z_il1 eX12_sift_151 ?_
      refine ze_i eX12_sift_152 rfl ?_
      have e : r = 0 := by omega
      subst e
      exact ⟨rfl, zFr.rf⟩
    · obtain ⟨q, rfl⟩ : ∃ q, r = q + 1 := ⟨r - 1, by omega⟩
      refine z_il1 eX12_sift_59 ?_
      refine z_il5 eX12_sift_60 ?_
      refine z_ishr eX12_sift_62 ?_
      refine z_ki eX12_sift_63 ?_
      refine z_iand eX12_sift_64 ?_
      refine z_ki eX12_sift_65 ?_
      refine z_cne eX12_sift_66 rfl (fun c66 => ?_) (fun c66 => ?_)
      · refine z_ki eX12_sift_73 ?_
        refine z_is6 eX12_sift_74 zn0 ?_
        refine z_ki eX12_sift_76 ?_
        refine z_is7 eX12_sift_77 zn0 ?_
        rw [kb_b1 (by omega) (by omega)] at c66
        refine r_sift_pb h D w hD hw hb hvb set hset c kd nn a (by omega) _ (nN D) 0 0 (Nat.zero_add _) (by omega) (fun y b' hy => ?_)
        replace hy : y = if set.testBit a = true ∧ beatF D w set a (nN D) 0 = true then 1 else 0 := by rw [hy]; simp [c66]
        refine z_il6 eX12_sift_135 ?_
        refine z_ieq eX12_sift_137 rfl (fun c137 => ?_) (fun c137 => ?_)
        · refine z_incN5 eX12_sift_145 zn0 (by omega) (by omega) ?_
          refine z_goto eX12_sift_148 rfl ?_
          refine z_fg6 ?_
          refine z_fg7 ?_
          rw [show pairF D w set (q + 1) a = pairF D w set q (a + 1) by rw [pairF, if_neg (fun z => by rw [if_pos z] at hy; omega)]]
          exact ih q (by omega) (a + 1) (by omega)
        · refine z_ki eX12_sift_140 ?_
          refine z_il5 eX12_sift_141 ?_
          refine z_ishl eX12_sift_143 ?_
          refine ze_i eX12_sift_144 rfl ?_
          rw [kb_shl1 (by omega)]
          exact ⟨by rw [pairF, if_pos (by
            by_cases z : set.testBit a = true ∧ beatF D w set a (nN D) 0 = true
            · exact z
            · rw [if_neg z] at hy; exact absurd hy c137)], zFr.rf⟩
      · refine z_ki eX12_sift_69 ?_
        refine z_goto eX12_sift_70 rfl ?_
        refine z_is6 eX12_sift_74 zn0 ?_
        refine z_ki eX12_sift_76 ?_
        refine z_is7 eX12_sift_77 zn0 ?_
        rw [kb_b1 (by omega) (by omega)] at c66
        refine r_sift_pb h D w hD hw hb hvb set hset c kd nn a (by omega) _ (nN D) 0 1 (Nat.zero_add _) (by omega) (fun y b' hy => ?_)
        replace hy : y = if set.testBit a = true ∧ beatF D w set a (nN D) 0 = true then 1 else 0 := by rw [hy]; simp [c66]
        refine z_il6 eX12_sift_135 ?_
        refine z_ieq eX12_sift_137 rfl (fun c137 => ?_) (fun c137 => ?_)
        · refine z_incN5 eX12_sift_145 zn0 (by omega) (by omega) ?_
          refine z_goto eX12_sift_148 rfl ?_
          refine z_fg6 ?_
          refine z_fg7 ?_
          rw [show pairF D w set (q + 1) a = pairF D w set q (a + 1) by rw [pairF, if_neg (fun z => by rw [if_pos z] at hy; omega)]]
          exact ih q (by omega) (a + 1) (by omega)
        · refine z_ki eX12_sift_140 ?_
          refine z_il5 eX12_sift_141 ?_
          refine z_ishl eX12_sift_143 ?_
          refine ze_i eX12_sift_144 rfl ?_
          rw [kb_shl1 (by omega)]
          exact ⟨by rw [pairF, if_pos (by
            by_cases z : set.testBit a = true ∧ beatF D w set a (nN D) 0 = true
            · exact z
            · rw [if_neg z] at hy; exact absurd hy c137)], zFr.rf⟩
theorem r_sift_bar (h : zHp) (D w : Nat → Int) (hD : h 122 = D) (hw : h 124 = w) (hb : dB D) (hvb : vB D w) (V : Int) (hV : h 117 25 = V) (hVb : 0 ≤ V ∧ V ≤ 3960) (set : Nat) (hset : set < 256) (c : Nat) (kd nn : Int) (hn : 0 ≤ nn ∧ nn ≤ 99) : ∀ (r k : Nat), k + r = nN D → zRW mX12_sift 4 (0, 0) 164 [zA 117, zI set, zI c, zI kd, zI nn, zI (pickN (barP D w V set nn) k : Nat), zI k, zU, zU] [] 143 h (zqi (fun v h' => (barOf D w V set nn : Int) = v ∧ zFr 125 h h')) := by
  intro r
  induction r using Nat.strongRecOn with
  | ind r ih =>
    intro k hk
    have hN := nN_eq hb
    have hN8 := nN_le hb
    have hgN : h 122 0 = (nN D : Int) := by rw [hD]; exact hN
    have hp : pickN (barP D w V set nn) k < 256 := pick_31 _ (by omega)
    have hfb := fstOf_b hb hvb k set
    have hnV1 : 0 ≤ nn * V := Int.mul_nonneg hn.1 hVb.1
    have hnV2 := Int.mul_le_mul hn.2 hVb.2 hVb.1 (by omega)
    refine z_il6 eX12_sift_164 ?_
    refine z_al0 eX12_sift_166 ?_
    refine z_ga eX12_sift_167 fX12_35 zs117 (t := 122) rfl ?_
    refine z_ki eX12_sift_170 ?_
    refine zr_iN eX12_sift_171 zs122 (j := 0) (by omega) (by omega) ?_
    refine z_cge eX12_sift_172 rfl (fun c172 => ?_) (fun c172 => ?_)
    · refine z_il5 eX12_sift_220 ?_
      refine z_ine eX12_sift_222 rfl (fun c222 => ?_) (fun c222 => ?_)
      · refine z_il5 eX12_sift_229 ?_
        refine ze_i eX12_sift_231 rfl ?_
        have e : k = nN D := by omega
        subst e
        exact ⟨by rw [barOf, if_neg (by omega)], zFr.rf⟩
      · refine z_il1 eX12_sift_225 ?_
        refine z_goto eX12_sift_226 rfl ?_
        refine ze_i eX12_sift_231 rfl ?_
        have e : k = nN D := by omega
        subst e
        exact ⟨by rw [barOf, if_pos (by omega)], zFr.rf⟩
    · refine z_il1 eX12_sift_175 ?_
      refine z_il6 eX12_sift_176 ?_
      refine z_ishr eX12_sift_178 ?_
      refine z_ki eX12_sift_179 ?_
      refine z_iand eX12_sift_180 ?_
      refine z_ki eX12_sift_181 ?_
      refine z_cne eX12_sift_182 rfl (fun c182 => ?_) (fun c182 => ?_)
      · refine z_incN6 eX12_sift_214 zn0 (by omega) (by omega) ?_
        refine z_goto eX12_sift_217 rfl ?_
        have e : pickN (barP D w V set nn) (k + 1) = if barP D w V set nn k then pickN (barP D w V set nn) k ||| 2 ^ k else pickN (barP D w V set nn) k := rfl
        rw [kb_b1 (by omega) (by omega)] at c182
        rw [if_neg (by simp [barP, c182])] at e
        rw [← e]
        exact ih (r - 1) (by omega) (k + 1) (by omega)
      · refine z_ki eX12_sift_185 ?_
        refine z_al0 eX12_sift_187 ?_
        refine z_il6 eX12_sift_188 ?_
        refine z_il1 eX12_sift_190 ?_
        refine zc_vi2 eX12_sift_191 lX12_302 tX12_firstsOf zs117 (by decide) (Nat.le_of_ble_eq_true rfl) (r_firstsOf _ _ _ hD hw hb hvb k set (by omega)) ?_
        rintro _ _ ⟨rfl, rfl⟩ -
        refine z_imulN eX12_sift_194 (by omega) (by omega) ?_
        refine z_il4 eX12_sift_195 ?_
        refine z_al0 eX12_sift_197 ?_
        refine z_gi eX12_sift_198 fX12_284 zs117 ?_
        rw [hV]
        refine z_imulN eX12_sift_201 (by omega) (by omega) ?_
        refine z_clt eX12_sift_202 rfl (fun c202 => ?_) (fun c202 => ?_)
        · refine z_incN6 eX12_sift_214 zn0 (by omega) (by omega) ?_
          refine z_goto eX12_sift_217 rfl ?_
          have e : pickN (barP D w V set nn) (k + 1) = if barP D w V set nn k then pickN (barP D w V set nn) k ||| 2 ^ k else pickN (barP D w V set nn) k := rfl
          rw [kb_b1 (by omega) (by omega)] at c182
          have z1 : ¬ nn * V ≤ 100 * fstOf D w k set := by omega
          rw [if_neg (by simp [barP, c182, z1])] at e
          rw [← e]
          exact ih (r - 1) (by omega) (k + 1) (by omega)
        · refine z_il5 eX12_sift_205 ?_
          refine z_ki eX12_sift_207 ?_
          refine z_il6 eX12_sift_208 ?_
          refine z_ishl eX12_sift_210 ?_
          refine z_ior eX12_sift_211 ?_
          refine z_is5 eX12_sift_212 zn0 ?_
          refine z_incN6 eX12_sift_214 zn0 (by omega) (by omega) ?_
          refine z_goto eX12_sift_217 rfl ?_
          have e : pickN (barP D w V set nn) (k + 1) = if barP D w V set nn k then pickN (barP D w V set nn) k ||| 2 ^ k else pickN (barP D w V set nn) k := rfl
          rw [kb_b1 (by omega) (by omega)] at c182
          have z1 : nn * V ≤ 100 * fstOf D w k set := by omega
          rw [if_pos (by simp [barP, c182, z1])] at e
          rw [kb_shl1 (by omega), kb_or (by omega) (p2_31 (by omega))]
          rw [← e]
          exact ih (r - 1) (by omega) (k + 1) (by omega)
theorem r_sift_ps (D w : Nat → Int) (hb : dB D) (hvb : vB D w) (set : Nat) (hset : set < 256) (c : Nat) (hc : c < 4) (k : Nat) (hk : k < nN D) (hkd : D (241 + c) = 0 ∨ D (241 + c) = 1 ∨ D (241 + c) = 4) (Q : Int → zHp → Prop) (g : zHp) (hg1 : g 122 = D) (hg2 : g 124 = w) : ∀ (r s : Nat), s + r = nS D → (zRW mX12_sift 4 (0, 0) 391 [zA 117, zI set, zI c, zI (D (241 + c)), zI (D (245 + c)), zI k, zU, zU, zU] [] 143 (zup g 125 k (sumN (ptsS D w set c k) (nS D))) (zqi Q)) → zRW mX12_sift 4 (0, 0) 269 [zA 117, zI set, zI c, zI (D (241 + c)), zI (D (245 + c)), zI k, zI s, zU, zU] [] 143 (zup g 125 k (sumN (ptsS D w set c k) s)) (zqi Q) := by
  intro r
  induction r using Nat.strongRecOn with
  | ind r ih =>
    intro s hs kk
    have hS := nS_eq hb
    have hS20 := nS_le hb
    have hN8 := nN_le hb
    obtain ⟨f1, f2, f3, f4, f5, f6, f7⟩ := hb.2.2.2.2.2.2.2 c hc
    have hsum := sumN_b (f := ptsS D w set c k) (lo := 0) (hi := 19602) s (fun j hj => ptsS_b hb hvb hc set k j (by omega))
    have n1 : zup g 125 k (sumN (ptsS D w set c k) s) 122 = D := (zup_off (by decide)).trans hg1
    have n2 : zup g 125 k (sumN (ptsS D w set c k) s) 124 = w := (zup_off (by decide)).trans hg2
    have n4 : zup g 125 k (sumN (ptsS D w set c k) s) 125 k = sumN (ptsS D w set c k) s := zup_at _ _ _ _
    have hgS : zup g 125 k (sumN (ptsS D w set c k) s) 122 1 = (nS D : Int) := by rw [n1]; exact hS
    refine z_il6 eX12_sift_269 ?_
    refine z_al0 eX12_sift_271 ?_
    refine z_ga eX12_sift_272 fX12_35 zs117 (t := 122) rfl ?_
    refine z_ki eX12_sift_275 ?_
    refine zr_iN eX12_sift_276 zs122 (j := 1) (by omega) (by omega) ?_
    refine z_cge eX12_sift_277 rfl (fun c277 => ?_) (fun c277 => ?_)
    · refine z_fg6 ?_
      have e : s = nS D := by omega
      subst e
      exact kk
    · have hv := hvb s (by omega)
      have hpl := plc_b hb s k set
      have hpt := ptsS_b hb hvb hc set k s (by omega)
      unfold ptsS at hpt
      refine z_al0 eX12_sift_280 ?_
      refine z_il6 eX12_sift_281 ?_
      refine z_il5 eX12_sift_283 ?_
      refine z_il1 eX12_sift_285 ?_
      refine zc_vi3 eX12_sift_286 lX12_290 tX12_placeIn zs117 (by decide) (Nat.le_of_ble_eq_true rfl) (r_placeIn _ _ n1 hb s (by omega) k set (by omega)) ?_
      rintro _ _ ⟨rfl, rfl⟩ -
      refine z_is7 eX12_sift_289 zn0 ?_
      refine z_il3 eX12_sift_291 ?_
      refine z_ine eX12_sift_292 rfl (fun c292 => ?_) (fun c292 => ?_)
      · refine z_il3 eX12_sift_308 ?_
        refine z_ki eX12_sift_309 ?_
        refine z_cne eX12_sift_310 rfl (fun c310 => ?_) (fun c310 => ?_)
        · refine z_il7 eX12_sift_328 ?_
          refine z_al0 eX12_sift_330 ?_
          refine z_ga eX12_sift_331 fX12_35 zs117 (t := 122) rfl ?_
          refine z_ki eX12_sift_334 ?_
          refine z_il2 eX12_sift_337 ?_
          refine z_iaddN eX12_sift_338 (by omega) (by omega) ?_
          refine zr_iN eX12_sift_339 zs122 (j := 249 + c) (by omega) (by omega) ?_
          rw [n1]
          refine z_cge eX12_sift_340 rfl (fun c340 => ?_) (fun c340 => ?_)
          · refine z_ki eX12_sift_362 ?_
            refine z_is8 eX12_sift_363 zn0 ?_
            refine z_al0 eX12_sift_365 ?_
            refine z_ga eX12_sift_366 fX12_44 zs117 (t := 125) rfl ?_
            refine z_il5 eX12_sift_369 ?_
            refine z_dup2 eX12_sift_371 zn0 zn2 ?_
            refine zr_iN eX12_sift_372 zs125 (j := k) (by omega) (by omega) ?_
            refine z_il8 eX12_sift_373 ?_
            refine z_al0 eX12_sift_375 ?_
            refine z_ga eX12_sift_376 fX12_41 zs117 (t := 124) rfl ?_
            refine z_il6 eX12_sift_379 ?_
            refine zr_iN eX12_sift_381 zs124 (j := s) (by omega) (by omega) ?_
            rw [n2]
            have hE : eachP D c (plc D s k set) = _ := ((if_neg c292).trans (if_neg c310)).trans (if_neg (by omega))
            rw [← hE]
            refine z_imulN eX12_sift_382 (by omega) (by omega) ?_
            rw [n4]
            refine z_iaddN eX12_sift_383 (by omega) (by omega) ?_
            refine zs_iN eX12_sift_384 zs125 (j := k) (by omega) (by omega) ?_
            refine z_incN6 eX12_sift_385 zn0 (by omega) (by omega) ?_
            refine z_goto eX12_sift_388 rfl ?_
            refine z_fg7 ?_
            refine z_fg8 ?_
            rw [zup_zup]
            exact ih (r - 1) (by omega) (s + 1) (by omega) kk
          · refine z_al0 eX12_sift_343 ?_
            refine z_ga eX12_sift_344 fX12_35 zs117 (t := 122) rfl ?_
            refine z_ki eX12_sift_347 ?_
            refine z_ki eX12_sift_350 ?_
            refine z_il2 eX12_sift_352 ?_
            refine z_imulN eX12_sift_353 (by omega) (by omega) ?_
            refine z_iaddN eX12_sift_354 (by omega) (by omega) ?_
            refine z_il7 eX12_sift_355 ?_
            refine z_iaddN eX12_sift_357 (by omega) (by omega) ?_
            refine zr_iN eX12_sift_358 zs122 (j := 253 + 8 * c + (plc D s k set).toNat) (by omega) (by omega) ?_
            rw [n1]
            refine z_goto eX12_sift_359 rfl ?_
            refine z_is8 eX12_sift_363 zn0 ?_
            refine z_al0 eX12_sift_365 ?_
            refine z_ga eX12_sift_366 fX12_44 zs117 (t := 125) rfl ?_
            refine z_il5 eX12_sift_369 ?_
            refine z_dup2 eX12_sift_371 zn0 zn2 ?_
            refine zr_iN eX12_sift_372 zs125 (j := k) (by omega) (by omega) ?_
            refine z_il8 eX12_sift_373 ?_
            refine z_al0 eX12_sift_375 ?_
            refine z_ga eX12_sift_376 fX12_41 zs117 (t := 124) rfl ?_
            refine z_il6 eX12_sift_379 ?_
            refine zr_iN eX12_sift_381 zs124 (j := s) (by omega) (by omega) ?_
            rw [n2]
            have hE : eachP D c (plc D s k set) = _ := ((if_neg c292).trans (if_neg c310)).trans (if_pos (by omega))
            rw [← hE]
            refine z_imulN eX12_sift_382 (by omega) (by omega) ?_
            rw [n4]
            refine z_iaddN eX12_sift_383 (by omega) (by omega) ?_
            refine zs_iN eX12_sift_384 zs125 (j := k) (by omega) (by omega) ?_
            refine z_incN6 eX12_sift_385 zn0 (by omega) (by omega) ?_
            refine z_goto eX12_sift_388 rfl ?_
            refine z_fg7 ?_
            refine z_fg8 ?_
            rw [zup_zup]
            exact ih (r - 1) (by omega) (s + 1) (by omega) kk
        · refine z_il7 eX12_sift_313 ?_
          refine z_il4 eX12_sift_315 ?_
          refine z_cge eX12_sift_317 rfl (fun c317 => ?_) (fun c317 => ?_)
          · refine z_ki eX12_sift_324 ?_
            refine z_goto eX12_sift_325 rfl ?_
            refine z_is8 eX12_sift_363 zn0 ?_
            refine z_al0 eX12_sift_365 ?_
            refine z_ga eX12_sift_366 fX12_44 zs117 (t := 125) rfl ?_
            refine z_il5 eX12_sift_369 ?_
            refine z_dup2 eX12_sift_371 zn0 zn2 ?_
            refine zr_iN eX12_sift_372 zs125 (j := k) (by omega) (by omega) ?_
            refine z_il8 eX12_sift_373 ?_
            refine z_al0 eX12_sift_375 ?_
            refine z_ga eX12_sift_376 fX12_41 zs117 (t := 124) rfl ?_
            refine z_il6 eX12_sift_379 ?_
            refine zr_iN eX12_sift_381 zs124 (j := s) (by omega) (by omega) ?_
            rw [n2]
            have hE : eachP D c (plc D s k set) = _ := ((if_neg c292).trans (if_pos c310)).trans (if_neg (by omega))
            rw [← hE]
            refine z_imulN eX12_sift_382 (by omega) (by omega) ?_
            rw [n4]
            refine z_iaddN eX12_sift_383 (by omega) (by omega) ?_
            refine zs_iN eX12_sift_384 zs125 (j := k) (by omega) (by omega) ?_
            refine z_incN6 eX12_sift_385 zn0 (by omega) (by omega) ?_
            refine z_goto eX12_sift_388 rfl ?_
            refine z_fg7 ?_
            refine z_fg8 ?_
            rw [zup_zup]
            exact ih (r - 1) (by omega) (s + 1) (by omega) kk
          · refine z_ki eX12_sift_320 ?_
            refine z_goto eX12_sift_321 rfl ?_
            refine z_is8 eX12_sift_363 zn0 ?_
            refine z_al0 eX12_sift_365 ?_
            refine z_ga eX12_sift_366 fX12_44 zs117 (t := 125) rfl ?_
            refine z_il5 eX12_sift_369 ?_
            refine z_dup2 eX12_sift_371 zn0 zn2 ?_
            refine zr_iN eX12_sift_372 zs125 (j := k) (by omega) (by omega) ?_
            refine z_il8 eX12_sift_373 ?_
            refine z_al0 eX12_sift_375 ?_
            refine z_ga eX12_sift_376 fX12_41 zs117 (t := 124) rfl ?_
            refine z_il6 eX12_sift_379 ?_
            refine zr_iN eX12_sift_381 zs124 (j := s) (by omega) (by omega) ?_
            rw [n2]
            have hE : eachP D c (plc D s k set) = _ := ((if_neg c292).trans (if_pos c310)).trans (if_pos (by omega))
            rw [← hE]
            refine z_imulN eX12_sift_382 (by omega) (by omega) ?_
            rw [n4]
            refine z_iaddN eX12_sift_383 (by omega) (by omega) ?_
            refine zs_iN eX12_sift_384 zs125 (j := k) (by omega) (by omega) ?_
            refine z_incN6 eX12_sift_385 zn0 (by omega) (by omega) ?_
            refine z_goto eX12_sift_388 rfl ?_
            refine z_fg7 ?_
            refine z_fg8 ?_
            rw [zup_zup]
            exact ih (r - 1) (by omega) (s + 1) (by omega) kk
      · refine z_il7 eX12_sift_295 ?_
        refine z_ine eX12_sift_297 rfl (fun c297 => ?_) (fun c297 => ?_)
        · refine z_ki eX12_sift_304 ?_
          refine z_goto eX12_sift_305 rfl ?_
          refine z_is8 eX12_sift_363 zn0 ?_
          refine z_al0 eX12_sift_365 ?_
          refine z_ga eX12_sift_366 fX12_44 zs117 (t := 125) rfl ?_
          refine z_il5 eX12_sift_369 ?_
          refine z_dup2 eX12_sift_371 zn0 zn2 ?_
          refine zr_iN eX12_sift_372 zs125 (j := k) (by omega) (by omega) ?_
          refine z_il8 eX12_sift_373 ?_
          refine z_al0 eX12_sift_375 ?_
          refine z_ga eX12_sift_376 fX12_41 zs117 (t := 124) rfl ?_
          refine z_il6 eX12_sift_379 ?_
          refine zr_iN eX12_sift_381 zs124 (j := s) (by omega) (by omega) ?_
          rw [n2]
          have hE : eachP D c (plc D s k set) = _ := (if_pos c292).trans (if_neg c297)
          rw [← hE]
          refine z_imulN eX12_sift_382 (by omega) (by omega) ?_
          rw [n4]
          refine z_iaddN eX12_sift_383 (by omega) (by omega) ?_
          refine zs_iN eX12_sift_384 zs125 (j := k) (by omega) (by omega) ?_
          refine z_incN6 eX12_sift_385 zn0 (by omega) (by omega) ?_
          refine z_goto eX12_sift_388 rfl ?_
          refine z_fg7 ?_
          refine z_fg8 ?_
          rw [zup_zup]
          exact ih (r - 1) (by omega) (s + 1) (by omega) kk
        · refine z_ki eX12_sift_300 ?_
          refine z_goto eX12_sift_301 rfl ?_
          refine z_is8 eX12_sift_363 zn0 ?_
          refine z_al0 eX12_sift_365 ?_
          refine z_ga eX12_sift_366 fX12_44 zs117 (t := 125) rfl ?_
          refine z_il5 eX12_sift_369 ?_
          refine z_dup2 eX12_sift_371 zn0 zn2 ?_
          refine zr_iN eX12_sift_372 zs125 (j := k) (by omega) (by omega) ?_
          refine z_il8 eX12_sift_373 ?_
          refine z_al0 eX12_sift_375 ?_
          refine z_ga eX12_sift_376 fX12_41 zs117 (t := 124) rfl ?_
          refine z_il6 eX12_sift_379 ?_
          refine zr_iN eX12_sift_381 zs124 (j := s) (by omega) (by omega) ?_
          rw [n2]
          have hE : eachP D c (plc D s k set) = _ := (if_pos c292).trans (if_pos c297)
          rw [← hE]
          refine z_imulN eX12_sift_382 (by omega) (by omega) ?_
          rw [n4]
          refine z_iaddN eX12_sift_383 (by omega) (by omega) ?_
          refine zs_iN eX12_sift_384 zs125 (j := k) (by omega) (by omega) ?_
          refine z_incN6 eX12_sift_385 zn0 (by omega) (by omega) ?_
          refine z_goto eX12_sift_388 rfl ?_
          refine z_fg7 ?_
          refine z_fg8 ?_
          rw [zup_zup]
          exact ih (r - 1) (by omega) (s + 1) (by omega) kk
theorem r_sift_pk (h : zHp) (D w : Nat → Int) (hb : dB D) (hvb : vB D w) (set : Nat) (hset : set < 256) (c : Nat) (hc : c < 4) (hkd : D (241 + c) = 0 ∨ D (241 + c) = 1 ∨ D (241 + c) = 4) : ∀ (r k : Nat) (g : zHp), g 122 = D → g 124 = w → zFr 125 h g → k + r = nN D → (∀ j : Nat, j < k → g 125 j = cntP D w set c j) → zRW mX12_sift 4 (0, 0) 235 [zA 117, zI set, zI c, zI (D (241 + c)), zI (D (245 + c)), zI k, zU, zU, zU] [] 143 g (zqi (fun v h' => (greatOf (cntP D w set c) set (nN D) : Int) = v ∧ zFr 125 h h')) := by
  intro r
  induction r using Nat.strongRecOn with
  | ind r ih =>
    intro k g hg1 hg2 hfr hk hcn
    have hN := nN_eq hb
    have hN8 := nN_le hb
    have hgN : g 122 0 = (nN D : Int) := by rw [hg1]; exact hN
    refine z_il5 eX12_sift_235 ?_
    refine z_al0 eX12_sift_237 ?_
    refine z_ga eX12_sift_238 fX12_35 zs117 (t := 122) rfl ?_
    refine z_ki eX12_sift_241 ?_
    refine zr_iN eX12_sift_242 zs122 (j := 0) (by omega) (by omega) ?_
    refine z_cge eX12_sift_243 rfl (fun c243 => ?_) (fun c243 => ?_)
    · refine z_al0 eX12_sift_397 ?_
      refine z_il1 eX12_sift_398 ?_
      refine zc_vi1 eX12_sift_399 lX12_311 tX12_greatest zs117 (by decide) (Nat.le_of_ble_eq_true rfl) (r_greatest _ _ _ hg1 rfl hb set hset) ?_
      rintro _ _ ⟨rfl, rfl⟩ -
      refine ze_i eX12_sift_402 rfl ?_
      have e : k = nN D := by omega
      subst e
      exact ⟨by rw [greatOf_congr set (nN D) hcn], hfr⟩
    · refine z_al0 eX12_sift_246 ?_
      refine z_ga eX12_sift_247 fX12_44 zs117 (t := 125) rfl ?_
      refine z_il5 eX12_sift_250 ?_
      refine z_ki eX12_sift_252 ?_
      refine zs_iN eX12_sift_253 zs125 (j := k) (by omega) (by omega) ?_
      refine z_il1 eX12_sift_254 ?_
      refine z_il5 eX12_sift_255 ?_
      refine z_ishr eX12_sift_257 ?_
      refine z_ki eX12_sift_258 ?_
      refine z_iand eX12_sift_259 ?_
      refine z_ine eX12_sift_260 rfl (fun c260 => ?_) (fun c260 => ?_)
      · refine z_ki eX12_sift_266 ?_
        refine z_is6 eX12_sift_267 zn0 ?_
        rw [kb_b0 (by omega) (by omega)] at c260
        have tb : set.testBit k = true := by simpa using c260
        refine r_sift_ps D w hb hvb set hset c hc k (by omega) hkd _ g hg1 hg2 (nS D) 0 (Nat.zero_add _) ?_
        refine z_incN5 eX12_sift_391 zn0 (by omega) (by omega) ?_
        refine z_goto eX12_sift_394 rfl ?_
        exact ih (r - 1) (by omega) (k + 1) (zup g 125 k (sumN (ptsS D w set c k) (nS D))) ((zup_off (by decide)).trans hg1) ((zup_off (by decide)).trans hg2) (hfr.up k _) (by omega) (fun j hj => by
          by_cases z : j = k
          · subst z
            rw [zup_at]
            exact (if_pos tb).symm
          · rw [zup_ne (by omega)]
            exact hcn j (by omega))
      · refine z_goto eX12_sift_263 rfl ?_
        refine z_incN5 eX12_sift_391 zn0 (by omega) (by omega) ?_
        refine z_goto eX12_sift_394 rfl ?_
        rw [kb_b0 (by omega) (by omega)] at c260
        exact ih (r - 1) (by omega) (k + 1) (zup g 125 k 0) ((zup_off (by decide)).trans hg1) ((zup_off (by decide)).trans hg2) (hfr.up k _) (by omega) (fun j hj => by
          by_cases z : j = k
          · subst z
            rw [zup_at]
            exact (if_neg (by rw [c260]; decide)).symm
          · rw [zup_ne (by omega)]
            exact hcn j (by omega))
theorem r_sift (h : zHp) (D w : Nat → Int) (hD : h 122 = D) (hw : h 124 = w) (hb : dB D) (hvb : vB D w) (V : Int) (hV : h 117 25 = V) (hVb : 0 ≤ V ∧ V ≤ 3960) (set : Nat) (hset : set < 2 ^ nN D) (c : Nat) (hc : c < 4) : zCi mX12_sift 4 [zA 117, zI set, zI c] h (fun v h' => (siftOf D w V set c : Int) = v ∧ zFr 125 h h') := by
  refine z_enter [zA 117, zI set, zI c, zU, zU, zU, zU, zU, zU] (by decide +kernel) (Nat.le_of_ble_eq_true rfl) rfl (fun hra hrg => ?_)
  have h256 : set < 256 := p2_256 hb hset
  obtain ⟨f1, f2, f3, f4, f5, f6, f7⟩ := hb.2.2.2.2.2.2.2 c hc
  refine z_al0 eX12_sift_0 ?_
  refine z_ga eX12_sift_1 fX12_35 zs117 (t := 122) rfl ?_
  refine z_ki eX12_sift_4 ?_
  refine z_il2 eX12_sift_7 ?_
  refine z_iaddN eX12_sift_8 (by omega) (by omega) ?_
  refine zr_iN eX12_sift_9 zs122 (j := 241 + c) (by omega) (by omega) ?_
  rw [hD]
  refine z_is3 eX12_sift_10 zn0 ?_
  refine z_al0 eX12_sift_11 ?_
  refine z_ga eX12_sift_12 fX12_35 zs117 (t := 122) rfl ?_
  refine z_ki eX12_sift_15 ?_
  refine z_il2 eX12_sift_18 ?_
  refine z_iaddN eX12_sift_19 (by omega) (by omega) ?_
  refine zr_iN eX12_sift_20 zs122 (j := 245 + c) (by omega) (by omega) ?_
  rw [hD]
  refine z_is4 eX12_sift_21 zn0 ?_
  refine z_il1 eX12_sift_23 ?_
  refine z_ine eX12_sift_24 rfl (fun c24 => ?_) (fun c24 => ?_)
  · refine z_il3 eX12_sift_29 ?_
    refine z_ki eX12_sift_30 ?_
    refine z_cne eX12_sift_31 rfl (fun c31 => ?_) (fun c31 => ?_)
    · refine z_il3 eX12_sift_40 ?_
      refine z_ki eX12_sift_41 ?_
      refine z_cne eX12_sift_42 rfl (fun c42 => ?_) (fun c42 => ?_)
      · refine z_il3 eX12_sift_153 ?_
        refine z_ki eX12_sift_154 ?_
        refine z_cne eX12_sift_155 rfl (fun c155 => ?_) (fun c155 => ?_)
        · refine z_ki eX12_sift_232 ?_
          refine z_is5 eX12_sift_233 zn0 ?_
          refine z_wk (fun r n h' q => ?_) (r_sift_pk h D w hb hvb set h256 c hc (by omega) _ 0 h hD hw zFr.rf (Nat.zero_add _) (fun j hj => by omega))
          obtain ⟨q1, v, q2, q3, q4⟩ := q
          exact ⟨q1, v, q2, by rw [siftOf, if_neg (by omega), if_neg c31, if_neg c42, if_neg c155]; exact q3, q4⟩
        · refine z_ki eX12_sift_158 ?_
          refine z_is5 eX12_sift_159 zn0 ?_
          refine z_ki eX12_sift_161 ?_
          refine z_is6 eX12_sift_162 zn0 ?_
          refine z_wk (fun r n h' q => ?_) (r_sift_bar h D w hD hw hb hvb V hV hVb set h256 c _ _ ⟨f3, f4⟩ _ 0 (Nat.zero_add _))
          obtain ⟨q1, v, q2, q3, q4⟩ := q
          exact ⟨q1, v, q2, by rw [siftOf, if_neg (by omega), if_neg c31, if_neg c42, if_pos c155]; exact q3, q4⟩
      · refine z_ki eX12_sift_45 ?_
        refine z_is5 eX12_sift_46 zn0 ?_
        refine z_wk (fun r n h' q => ?_) (r_sift_pa h D w hD hw hb hvb set h256 c _ _ _ 0 (Nat.zero_add _))
        obtain ⟨q1, v, q2, q3, q4⟩ := q
        exact ⟨q1, v, q2, by rw [siftOf, if_neg (by omega), if_neg c31, if_pos c42]; exact q3, q4⟩
    · refine z_al0 eX12_sift_34 ?_
      refine z_il1 eX12_sift_35 ?_
      refine zc_vi1 eX12_sift_36 lX12_305 tX12_runDown zs117 (by decide) (Nat.le_of_ble_eq_true rfl) (r_runDown _ _ _ hD hw hb hvb V hV set hset) ?_
      rintro _ g ⟨rfl, hfr⟩ -
      refine ze_i eX12_sift_39 rfl ?_
      exact ⟨by rw [siftOf, if_neg (by omega), if_pos c31], hfr⟩
  · refine z_ki eX12_sift_27 ?_
    refine ze_i eX12_sift_28 rfl ?_
    exact ⟨by rw [siftOf, if_pos (by omega)]; rfl, zFr.rf⟩
