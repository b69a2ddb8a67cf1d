-- the reference tells who is left and who wins (written by wip/tools/specM5.py)
def lftOf (D w : Nat → Int) (V : Int) (set : Nat) : Nat → Nat
  | 0 => set
  | k + 1 => siftOf D w V (lftOf D w V set k) k
def winF (D : Nat → Int) (left : Nat) : Nat → Nat → Int → Int
  | 0, _, b => b
  | r + 1, k, b => winF D left r (k + 1) (if left.testBit k = true ∧ (b < 0 ∨ D (11 + k) < D (11 + b.toNat)) then k else b)
def winOf (D w : Nat → Int) (V : Int) (set : Nat) : Int := winF D (lftOf D w V set (D 240).toNat) (nN D) 0 (-1)
theorem majF_lt (c : Nat → Int) (V : Int) (set : Nat) : ∀ r k, majF c V set r k < k + r := by
  intro r
  induction r with
  | zero => intro k; simp [majF]; omega
  | succ r ih =>
    intro k
    have := ih (k + 1)
    rw [majF]
    split <;> omega
theorem runF_lt {D w : Nat → Int} {V : Int} : ∀ f set, set < 2 ^ nN D → runF D w V f set < 2 ^ nN D := by
  intro f
  induction f with
  | zero => intro set h; exact h
  | succ f ih =>
    intro set h
    rw [runF]
    split
    · exact h
    · split
      · next hm =>
        have := majF_lt (cntO D w set) V set (nN D) 0
        exact Nat.pow_lt_pow_right (by omega) (by omega)
      · exact ih _ (andn_lt h _)
theorem pairF_lt {D w : Nat → Int} {set : Nat} (h : set < 2 ^ nN D) : ∀ r a, a + r = nN D → pairF D w set r a < 2 ^ nN D := by
  intro r
  induction r with
  | zero => intro a _; exact h
  | succ r ih =>
    intro a ha
    rw [pairF]
    split
    · exact Nat.pow_lt_pow_right (by omega) (by omega)
    · exact ih (a + 1) (by omega)
theorem siftOf_lt {D w : Nat → Int} {V : Int} {set : Nat} (c : Nat) (h : set < 2 ^ nN D) : siftOf D w V set c < 2 ^ nN D := by
  have h0 : 0 < 2 ^ nN D := by omega
  unfold siftOf
  split
  · exact h0
  · split
    · exact runF_lt 8 set h
    · split
      · exact pairF_lt h _ 0 (Nat.zero_add _)
      · split
        · unfold barOf
          split
          · exact h
          · exact pickN_lt _ _
        · exact pickN_lt _ _
theorem lftOf_lt {D w : Nat → Int} {V : Int} {set : Nat} (h : set < 2 ^ nN D) : ∀ k, lftOf D w V set k < 2 ^ nN D := by
  intro k
  induction k with
  | zero => exact h
  | succ k ih => exact siftOf_lt k ih
theorem winF_spec (D : Nat → Int) (left : Nat) : ∀ (r k : Nat) (b : Int), -1 ≤ b → b < k → (0 ≤ b → left.testBit b.toNat = true) → -1 ≤ winF D left r k b ∧ winF D left r k b < k + r ∧ (0 ≤ winF D left r k b → left.testBit (winF D left r k b).toNat = true) := by
  intro r
  induction r with
  | zero => intro k b h1 h2 h3; exact ⟨h1, by simpa [winF] using h2, h3⟩
  | succ r ih =>
    intro k b h1 h2 h3
    rw [winF]
    split
    · next hc =>
      have := ih (k + 1) k (by omega) (by omega) (fun _ => hc.1)
      exact ⟨this.1, by omega, this.2.2⟩
    · have := ih (k + 1) b h1 (by omega) h3
      exact ⟨this.1, by omega, this.2.2⟩
theorem winOf_b {D : Nat → Int} (hb : dB D) (w : Nat → Int) (V : Int) (set : Nat) : -1 ≤ winOf D w V set ∧ winOf D w V set < nN D ∧ winOf D w V set < 8 := by
  have h1 := winF_spec D (lftOf D w V set (D 240).toNat) (nN D) 0 (-1) (by omega) (by omega) (by omega)
  have := nN_le hb
  unfold winOf
  omega
theorem sumN_congr {f g : Nat → Int} (n : Nat) (h : ∀ k, k < n → f k = g k) : sumN f n = sumN g n := by
  induction n with
  | zero => rfl
  | succ n ih => rw [sumN, sumN, ih (fun k hk => h k (by omega)), h n (by omega)]
theorem fstOf_congr {D w w' : Nat → Int} (hw : ∀ s, s < nS D → w s = w' s) (name : Int) (set : Nat) : fstOf D w name set = fstOf D w' name set := sumN_congr _ (fun s hs => by rw [hw s hs])
theorem cntO_congr {D w w' : Nat → Int} (hw : ∀ s, s < nS D → w s = w' s) (set : Nat) : cntO D w set = cntO D w' set := funext (fun k => fstOf_congr hw k set)
theorem moreOf_congr {D w w' : Nat → Int} (hw : ∀ s, s < nS D → w s = w' s) (a b : Nat) : moreOf D w a b = moreOf D w' a b := sumN_congr _ (fun s hs => by rw [hw s hs])
theorem runF_congr {D w w' : Nat → Int} (hw : ∀ s, s < nS D → w s = w' s) (V : Int) : ∀ f set, runF D w V f set = runF D w' V f set := by
  intro f
  induction f with
  | zero => intro set; rfl
  | succ f ih => intro set; rw [runF, runF, cntO_congr hw, ih]
theorem beatF_congr {D w w' : Nat → Int} (hw : ∀ s, s < nS D → w s = w' s) (set a : Nat) : ∀ r b, beatF D w set a r b = beatF D w' set a r b := by
  intro r
  induction r with
  | zero => intro b; rfl
  | succ r ih => intro b; rw [beatF, beatF, moreOf_congr hw, ih]
theorem pairF_congr {D w w' : Nat → Int} (hw : ∀ s, s < nS D → w s = w' s) (set : Nat) : ∀ r a, pairF D w set r a = pairF D w' set r a := by
  intro r
  induction r with
  | zero => intro a; rfl
  | succ r ih => intro a; rw [pairF, pairF, beatF_congr hw, ih]
theorem barP_congr {D w w' : Nat → Int} (hw : ∀ s, s < nS D → w s = w' s) (V : Int) (set : Nat) (n : Int) : barP D w V set n = barP D w' V set n := funext (fun k => by unfold barP; rw [fstOf_congr hw])
theorem cntP_congr {D w w' : Nat → Int} (hw : ∀ s, s < nS D → w s = w' s) (set c : Nat) : cntP D w set c = cntP D w' set c := funext (fun k => by
  unfold cntP
  rw [sumN_congr (nS D) (fun s hs => by unfold ptsS; rw [hw s hs])]
  rfl)
theorem siftOf_congr {D w w' : Nat → Int} (hw : ∀ s, s < nS D → w s = w' s) (V : Int) (set c : Nat) : siftOf D w V set c = siftOf D w' V set c := by
  unfold siftOf runOf pairOf barOf
  rw [runF_congr hw, pairF_congr hw, barP_congr hw, cntP_congr hw]
theorem lftOf_congr {D w w' : Nat → Int} (hw : ∀ s, s < nS D → w s = w' s) (V : Int) (set : Nat) : ∀ k, lftOf D w V set k = lftOf D w' V set k := by
  intro k
  induction k with
  | zero => rfl
  | succ k ih => rw [lftOf, lftOf, ih, siftOf_congr hw]
theorem winOf_congr {D w w' : Nat → Int} (hw : ∀ s, s < nS D → w s = w' s) (V : Int) (set : Nat) : winOf D w V set = winOf D w' V set := by
  unfold winOf
  rw [lftOf_congr hw]
theorem r_leftOf_l (h : zHp) (D w : Nat → Int) (hD : h 122 = D) (hw : h 124 = w) (hb : dB D) (hvb : vB D w) (V : Int) (hV : h 117 25 = V) (hVb : 0 ≤ V ∧ V ≤ 3960) (set : Nat) (hset : set < 2 ^ nN D) (n : Nat) (hn : n ≤ 4) : ∀ (r k : Nat) (g : zHp), k + r = n → zFr 125 h g → zRW mX12_leftOf 5 (0, 0) 5 [zA 117, zI set, zI n, zI (lftOf D w V set k : Nat), zI k] [] 143 g (zqi (fun v h' => (lftOf D w V set n : Int) = v ∧ zFr 125 h h')) := by
  intro r
  induction r using Nat.strongRecOn with
  | ind r ih =>
    intro k g hk hfr
    refine z_il4 eX12_leftOf_5 ?_
    refine z_il2 eX12_leftOf_7 ?_
    refine z_cge eX12_leftOf_8 rfl (fun c8 => ?_) (fun c8 => ?_)
    · refine z_il3 eX12_leftOf_25 ?_
      refine ze_i eX12_leftOf_26 rfl ?_
      have e : k = n := by omega
      subst e
      exact ⟨rfl, hfr⟩
    · refine z_al0 eX12_leftOf_11 ?_
      refine z_il3 eX12_leftOf_12 ?_
      refine z_il4 eX12_leftOf_13 ?_
      refine zc_vi2 eX12_leftOf_15 lX12_314 tX12_sift zs117 (by decide) (Nat.le_of_ble_eq_true rfl) (r_sift g D w ((hfr 122 (by decide)).trans hD) ((hfr 124 (by decide)).trans hw) hb hvb V (by rw [hfr 117 (by decide)]; exact hV) hVb (lftOf D w V set k) (lftOf_lt hset k) k (by omega)) ?_
      rintro _ g2 ⟨rfl, hfr2⟩ -
      refine z_is3 eX12_leftOf_18 zn0 ?_
      refine z_incN4 eX12_leftOf_19 zn0 (by omega) (by omega) ?_
      refine z_goto eX12_leftOf_22 rfl ?_
      exact ih (r - 1) (by omega) (k + 1) g2 (by omega) (hfr.tr hfr2)
theorem r_leftOf (h : zHp) (D w : Nat → Int) (hD : h 122 = D) (hw : h 124 = w) (hb : dB D) (hvb : vB D w) (V : Int) (hV : h 117 25 = V) (hVb : 0 ≤ V ∧ V ≤ 3960) (set : Nat) (hset : set < 2 ^ nN D) (n : Nat) (hn : n ≤ 4) : zCi mX12_leftOf 5 [zA 117, zI set, zI n] h (fun v h' => (lftOf D w V set n : Int) = v ∧ zFr 125 h h') := by
  refine z_enter [zA 117, zI set, zI n, zU, zU] (by decide +kernel) (Nat.le_of_ble_eq_true rfl) rfl (fun hra hrg => ?_)
  refine z_il1 eX12_leftOf_0 ?_
  refine z_is3 eX12_leftOf_1 zn0 ?_
  refine z_ki eX12_leftOf_2 ?_
  refine z_is4 eX12_leftOf_3 zn0 ?_
  exact r_leftOf_l h D w hD hw hb hvb V hV hVb set hset n hn n 0 h (Nat.zero_add _) zFr.rf
theorem r_winner_l (h : zHp) (D : Nat → Int) (hD : h 122 = D) (hb : dB D) (set left : Nat) (hl : left < 256) (Q : Int → zHp → Prop) : ∀ (r k : Nat) (b : Int), k + r = nN D → -1 ≤ b → b < k → Q (winF D left r k b) h → zRW mX12_winner 6 (0, 0) 19 [zA 117, zI set, zI left, zI b, zI k] [] 143 h (zqi Q) := by
  intro r
  induction r using Nat.strongRecOn with
  | ind r ih =>
    intro k b hk hb0 hb1 hq
    have hN := nN_eq hb
    have hN8 := nN_le hb
    have hgN : h 122 0 = (nN D : Int) := by rw [hD]; exact hN
    refine z_il4 eX12_winner_19 ?_
    refine z_al0 eX12_winner_21 ?_
    refine z_ga eX12_winner_22 fX12_35 zs117 (t := 122) rfl ?_
    refine z_ki eX12_winner_25 ?_
    refine zr_iN eX12_winner_26 zs122 (j := 0) (by omega) (by omega) ?_
    refine z_cge eX12_winner_27 rfl (fun c27 => ?_) (fun c27 => ?_)
    · refine z_il3 eX12_winner_75 ?_
      refine ze_i eX12_winner_76 rfl ?_
      have e : r = 0 := by omega
      subst e
      exact hq
    · obtain ⟨q, rfl⟩ : ∃ q, r = q + 1 := ⟨r - 1, by omega⟩
      refine z_il2 eX12_winner_30 ?_
      refine z_il4 eX12_winner_31 ?_
      refine z_ishr eX12_winner_33 ?_
      refine z_ki eX12_winner_34 ?_
      refine z_iand eX12_winner_35 ?_
      refine z_ki eX12_winner_36 ?_
      refine z_cne eX12_winner_37 rfl (fun c37 => ?_) (fun c37 => ?_)
      · refine z_incN4 eX12_winner_69 zn0 (by omega) (by omega) ?_
        refine z_goto eX12_winner_72 rfl ?_
        rw [kb_b1 (by omega) (by omega)] at c37
        have e : winF D left (q + 1) k b = winF D left q (k + 1) b := by rw [winF, if_neg (by simp [c37])]
        rw [e] at hq
        exact ih q (by omega) (k + 1) b (by omega) (by omega) (by omega) hq
      · refine z_il3 eX12_winner_40 ?_
        refine z_ilt eX12_winner_41 rfl (fun c41 => ?_) (fun c41 => ?_)
        · refine z_il4 eX12_winner_66 ?_
          refine z_is3 eX12_winner_68 zn0 ?_
          refine z_incN4 eX12_winner_69 zn0 (by omega) (by omega) ?_
          refine z_goto eX12_winner_72 rfl ?_
          rw [kb_b1 (by omega) (by omega)] at c37
          have e : winF D left (q + 1) k b = winF D left q (k + 1) k := by rw [winF, if_pos ⟨c37, by omega⟩]
          rw [e] at hq
          exact ih q (by omega) (k + 1) k (by omega) (by omega) (by omega) hq
        · refine z_al0 eX12_winner_44 ?_
          refine z_ga eX12_winner_45 fX12_35 zs117 (t := 122) rfl ?_
          refine z_ki eX12_winner_48 ?_
          refine z_il4 eX12_winner_50 ?_
          refine z_iaddN eX12_winner_52 (by omega) (by omega) ?_
          refine zr_iN eX12_winner_53 zs122 (j := 11 + k) (by omega) (by omega) ?_
          refine z_al0 eX12_winner_54 ?_
          refine z_ga eX12_winner_55 fX12_35 zs117 (t := 122) rfl ?_
          refine z_ki eX12_winner_58 ?_
          refine z_il3 eX12_winner_60 ?_
          refine z_iaddN eX12_winner_61 (by omega) (by omega) ?_
          refine zr_iN eX12_winner_62 zs122 (j := 11 + b.toNat) (by omega) (by omega) ?_
          refine z_cge eX12_winner_63 rfl (fun c63 => ?_) (fun c63 => ?_)
          · refine z_incN4 eX12_winner_69 zn0 (by omega) (by omega) ?_
            refine z_goto eX12_winner_72 rfl ?_
            rw [kb_b1 (by omega) (by omega)] at c37
            rw [hD] at c63
            have e : winF D left (q + 1) k b = winF D left q (k + 1) b := by rw [winF, if_neg (by omega)]
            rw [e] at hq
            exact ih q (by omega) (k + 1) b (by omega) (by omega) (by omega) hq
          · refine z_il4 eX12_winner_66 ?_
            refine z_is3 eX12_winner_68 zn0 ?_
            refine z_incN4 eX12_winner_69 zn0 (by omega) (by omega) ?_
            refine z_goto eX12_winner_72 rfl ?_
            rw [kb_b1 (by omega) (by omega)] at c37
            rw [hD] at c63
            have e : winF D left (q + 1) k b = winF D left q (k + 1) k := by rw [winF, if_pos ⟨c37, by omega⟩]
            rw [e] at hq
            exact ih q (by omega) (k + 1) k (by omega) (by omega) (by omega) hq
theorem r_winner (h : zHp) (D w : Nat → Int) (hD : h 122 = D) (hw : h 124 = w) (hb : dB D) (hvb : vB D w) (V : Int) (hV : h 117 25 = V) (hVb : 0 ≤ V ∧ V ≤ 3960) (set : Nat) (hset : set < 2 ^ nN D) : zCi mX12_winner 6 [zA 117, zI set] h (fun v h' => winOf D w V set = v ∧ zFr 125 h h') := by
  refine z_enter [zA 117, zI set, zU, zU, zU] (by decide +kernel) (Nat.le_of_ble_eq_true rfl) rfl (fun hra hrg => ?_)
  have hb6 := hb.2.2.2.2.2.2.1
  have hcl : D 240 = ((D 240).toNat : Int) := by omega
  refine z_al0 eX12_winner_0 ?_
  refine z_il1 eX12_winner_1 ?_
  refine z_al0 eX12_winner_2 ?_
  refine z_ga eX12_winner_3 fX12_35 zs117 (t := 122) rfl ?_
  refine z_ki eX12_winner_6 ?_
  refine zr_iN eX12_winner_9 zs122 (j := 240) (by omega) (by omega) ?_
  rw [hD, hcl]
  refine zc_vi2 eX12_winner_10 lX12_317 tX12_leftOf zs117 (by decide) (Nat.le_of_ble_eq_true rfl) (r_leftOf _ _ _ hD hw hb hvb V hV hVb set hset (D 240).toNat (by omega)) ?_
  rintro _ g ⟨rfl, hfr⟩ -
  refine z_is2 eX12_winner_13 zn0 ?_
  refine z_ki eX12_winner_14 ?_
  refine z_is3 eX12_winner_15 zn0 ?_
  refine z_ki eX12_winner_16 ?_
  refine z_is4 eX12_winner_17 zn0 ?_
  exact r_winner_l g D ((hfr 122 (by decide)).trans hD) hb set _ (p2_256 hb (lftOf_lt hset _)) _ (nN D) 0 (-1) (Nat.zero_add _) (by omega) (by omega) ⟨rfl, hfr⟩
def allV (D : Nat → Int) : Int := sumN (inOf D) (nS D)
/-- the heap with the voters' row and their sum as countAll lays them: the first s sorts, sum x -/
def cA (h : zHp) (D : Nat → Int) (s : Nat) (x : Int) : zHp := fun a i => if a = 124 ∧ i < s then D (20 + i) else if a = 117 ∧ i = 25 then x else h a i
theorem cA_0 (h : zHp) (D : Nat → Int) (x : Int) : zup h 117 25 x = cA h D 0 x := by
  funext a i
  unfold zup cA
  rw [if_neg (c := a = 124 ∧ i < 0) (by omega)]
theorem cA_s (h : zHp) (D : Nat → Int) (s : Nat) (x : Int) : zup (cA h D s x) 124 s (D (20 + s)) = cA h D (s + 1) x := by
  funext a i
  unfold zup cA
  by_cases h1 : a = 124
  · by_cases h2 : i = s
    · rw [if_pos ⟨h1, h2⟩, if_pos ⟨h1, by omega⟩, h2]
    · rw [if_neg (by omega)]
      by_cases h3 : i < s
      · rw [if_pos ⟨h1, h3⟩, if_pos ⟨h1, by omega⟩]
      · rw [if_neg (by omega), if_neg (c := a = 124 ∧ i < s + 1) (by omega)]
  · rw [if_neg (by omega), if_neg (by omega), if_neg (c := a = 124 ∧ i < s + 1) (by omega)]
theorem cA_x (h : zHp) (D : Nat → Int) (s : Nat) (x y : Int) : zup (cA h D s x) 117 25 y = cA h D s y := by
  funext a i
  unfold zup cA
  by_cases h1 : a = 117 ∧ i = 25
  · rw [if_pos h1, if_neg (by omega), if_pos h1]
  · rw [if_neg h1, if_neg h1, if_neg h1]
theorem cA_off {h : zHp} {D : Nat → Int} {s : Nat} {x : Int} {a : Nat} (h1 : ¬ a = 117) (h2 : ¬ a = 124) : cA h D s x a = h a := by
  funext i
  simp [cA, h1, h2]
theorem cA_v {h : zHp} {D : Nat → Int} {s : Nat} {x : Int} {i : Nat} (hi : i < s) : cA h D s x 124 i = inOf D i := by simp [cA, hi, inOf]
theorem cA_V {h : zHp} {D : Nat → Int} {s : Nat} {x : Int} : cA h D s x 117 25 = x := by simp [cA]
theorem cA_f {h : zHp} {D : Nat → Int} {s : Nat} {x : Int} {i : Nat} (hi : ¬ i = 25) : cA h D s x 117 i = h 117 i := by simp [cA, hi]
theorem r_setVoters (h : zHp) (s : Nat) (hs : s < 20) (n : Int) : zCv mX12_setVoters 0 [zA 117, zI s, zI n] h (fun h' => zup h 124 s n = h') := by
  refine z_enter [zA 117, zI s, zI n] (by decide +kernel) (Nat.le_of_ble_eq_true rfl) rfl (fun hra hrg => ?_)
  refine z_al0 eX12_setVoters_0 ?_
  refine z_ga eX12_setVoters_1 fX12_41 zs117 (t := 124) rfl ?_
  refine z_il1 eX12_setVoters_4 ?_
  refine z_il2 eX12_setVoters_5 ?_
  refine zs_iN eX12_setVoters_6 zs124 (j := s) (by omega) (by omega) ?_
  refine ze_v eX12_setVoters_7 rfl ?_
  exact rfl
theorem r_countAll_l (h : zHp) (D : Nat → Int) (hD : h 122 = D) (hb : dB D) : ∀ (r s : Nat), s + r = nS D → zRW mX12_countAll 1 (0, 0) 7 [zA 117, zI s] [] 143 (cA h D s 0) (zqv (fun h' => cA h D (nS D) (allV D) = h')) := by
  intro r
  induction r using Nat.strongRecOn with
  | ind r ih =>
    intro s hs
    have hS := nS_eq hb
    have hS20 := nS_le hb
    have n1 : cA h D s 0 122 = D := (cA_off (by decide) (by decide)).trans hD
    refine z_il1 eX12_countAll_7 ?_
    refine z_al0 eX12_countAll_8 ?_
    refine z_ga eX12_countAll_9 fX12_35 zs117 (t := 122) rfl ?_
    refine z_ki eX12_countAll_12 ?_
    refine zr_iN eX12_countAll_13 zs122 (j := 1) (by omega) (by omega) ?_
    rw [n1]
    refine z_cge eX12_countAll_14 rfl (fun c14 => ?_) (fun c14 => ?_)
    · refine z_al0 eX12_countAll_37 ?_
      refine z_al0 eX12_countAll_38 ?_
      refine zc_vi0 eX12_countAll_39 lX12_272 tX12_allIn zs117 (by decide) (Nat.le_of_ble_eq_true rfl) (r_allIn _ _ n1 hb) ?_
      rintro _ _ ⟨rfl, rfl⟩ -
      refine z_pi eX12_countAll_42 pX12_284 zs117 ?_
      refine ze_v eX12_countAll_45 rfl ?_
      have e : s = nS D := by omega
      subst e
      exact (cA_x h D _ _ _).symm
    · refine z_al0 eX12_countAll_17 ?_
      refine z_il1 eX12_countAll_18 ?_
      refine z_al0 eX12_countAll_19 ?_
      refine z_ga eX12_countAll_20 fX12_35 zs117 (t := 122) rfl ?_
      refine z_ki eX12_countAll_23 ?_
      refine z_il1 eX12_countAll_25 ?_
      refine z_iaddN eX12_countAll_26 (by omega) (by omega) ?_
      refine zr_iN eX12_countAll_27 zs122 (j := 20 + s) (by omega) (by omega) ?_
      rw [n1]
      refine zc_vv2 eX12_countAll_28 lX12_287 tX12_setVoters zs117 (by decide) (Nat.le_of_ble_eq_true rfl) (r_setVoters _ s (by omega) _) ?_
      rintro _ rfl
      refine z_incN1 eX12_countAll_31 zn2 (by omega) (by omega) ?_
      refine z_goto eX12_countAll_34 rfl ?_
      rw [cA_s]
      exact ih (r - 1) (by omega) (s + 1) (by omega)
theorem r_countAll (h : zHp) (D : Nat → Int) (hD : h 122 = D) (hb : dB D) : zCv mX12_countAll 1 [zA 117] h (fun h' => cA h D (nS D) (allV D) = h') := by
  refine z_enter [zA 117, zU] (by decide +kernel) (Nat.le_of_ble_eq_true rfl) rfl (fun hra hrg => ?_)
  refine z_al0 eX12_countAll_0 ?_
  refine z_ki eX12_countAll_1 ?_
  refine z_pi eX12_countAll_2 pX12_284 zs117 ?_
  refine z_ki eX12_countAll_5 ?_
  refine z_is1 eX12_countAll_6 zn2 ?_
  rw [cA_0 h D]
  exact r_countAll_l h D hD hb _ 0 (Nat.zero_add _)
theorem r_sumVoters_l (h : zHp) (D w : Nat → Int) (hD : h 122 = D) (hw : h 124 = w) (hb : dB D) (hvb : vB D w) : ∀ (r s : Nat), s + r = nS D → zRW mX12_sumVoters 0 (0, 0) 7 [zA 117, zI s] [] 143 (zup h 117 25 (sumN w s)) (zqv (fun h' => zup h 117 25 (sumN w (nS D)) = h')) := by
  intro r
  induction r using Nat.strongRecOn with
  | ind r ih =>
    intro s hs
    have hS := nS_eq hb
    have hS20 := nS_le hb
    have n1 : zup h 117 25 (sumN w s) 122 = D := (zup_off (by decide)).trans hD
    have n2 : zup h 117 25 (sumN w s) 124 = w := (zup_off (by decide)).trans hw
    have n3 : zup h 117 25 (sumN w s) 117 25 = sumN w s := zup_at _ _ _ _
    refine z_il1 eX12_sumVoters_7 ?_
    refine z_al0 eX12_sumVoters_8 ?_
    refine z_ga eX12_sumVoters_9 fX12_35 zs117 (t := 122) rfl ?_
    refine z_ki eX12_sumVoters_12 ?_
    refine zr_iN eX12_sumVoters_13 zs122 (j := 1) (by omega) (by omega) ?_
    rw [n1]
    refine z_cge eX12_sumVoters_14 rfl (fun c14 => ?_) (fun c14 => ?_)
    · refine ze_v eX12_sumVoters_38 rfl ?_
      have e : s = nS D := by omega
      subst e
      exact rfl
    · have hsum := vB_sum hvb (s := s) (by omega)
      have hv := hvb s (by omega)
      refine z_al0 eX12_sumVoters_17 ?_
      refine z_dup eX12_sumVoters_18 zn2 ?_
      refine z_gi eX12_sumVoters_19 fX12_284 zs117 ?_
      refine z_al0 eX12_sumVoters_22 ?_
      refine z_ga eX12_sumVoters_23 fX12_41 zs117 (t := 124) rfl ?_
      refine z_il1 eX12_sumVoters_26 ?_
      refine zr_iN eX12_sumVoters_27 zs124 (j := s) (by omega) (by omega) ?_
      rw [n2, n3]
      refine z_iaddN eX12_sumVoters_28 (by omega) (by omega) ?_
      refine z_pi eX12_sumVoters_29 pX12_284 zs117 ?_
      refine z_incN1 eX12_sumVoters_32 zn2 (by omega) (by omega) ?_
      refine z_goto eX12_sumVoters_35 rfl ?_
      rw [zup_zup]
      exact ih (r - 1) (by omega) (s + 1) (by omega)
theorem r_sumVoters (h : zHp) (D w : Nat → Int) (hD : h 122 = D) (hw : h 124 = w) (hb : dB D) (hvb : vB D w) : zCv mX12_sumVoters 0 [zA 117] h (fun h' => zup h 117 25 (sumN w (nS D)) = h') := by
  refine z_enter [zA 117, zU] (by decide +kernel) (Nat.le_of_ble_eq_true rfl) rfl (fun hra hrg => ?_)
  refine z_al0 eX12_sumVoters_0 ?_
  refine z_ki eX12_sumVoters_1 ?_
  refine z_pi eX12_sumVoters_2 pX12_284 zs117 ?_
  refine z_ki eX12_sumVoters_5 ?_
  refine z_is1 eX12_sumVoters_6 zn2 ?_
  exact r_sumVoters_l h D w hD hw hb hvb _ 0 (Nat.zero_add _)
theorem vB_sum3960 {D w : Nat → Int} (hb : dB D) (hv : vB D w) : 0 ≤ sumN w (nS D) ∧ sumN w (nS D) ≤ 3960 := by
  have h1 := vB_sum hv (Nat.le_refl (nS D))
  have h2 := nS_le hb
  omega
theorem vB_congr {D w w' : Nat → Int} (hw : ∀ s, s < nS D → w s = w' s) (hv : vB D w) : vB D w' := fun s hs => by rw [← hw s hs]; exact hv s hs
/-- who wins now -/
def winNow (D : Nat → Int) (set : Nat) : Int := winOf D (inOf D) (sumN (inOf D) (nS D)) set
theorem r_winnerNow (h : zHp) (D : Nat → Int) (hD : h 122 = D) (hb : dB D) (hst : (D 2).toNat < 2 ^ nN D) : zCi mX12_winnerNow 7 [zA 117] h (fun v h' => winNow D (D 2).toNat = v ∧ zFr 125 (cA h D (nS D) (allV D)) h') := by
  refine z_enter [zA 117] (by decide +kernel) (Nat.le_of_ble_eq_true rfl) rfl (fun hra hrg => ?_)
  have hb2 := hb.2.2.1
  have n1 : cA h D (nS D) (allV D) 122 = D := (cA_off (by decide) (by decide)).trans hD
  have hvc : ∀ s, s < nS D → inOf D s = cA h D (nS D) (allV D) 124 s := fun s hs => (cA_v hs).symm
  refine z_al0 eX12_winnerNow_0 ?_
  refine zc_vv0 eX12_winnerNow_1 lX12_320 tX12_countAll zs117 (by decide) (Nat.le_of_ble_eq_true rfl) (r_countAll _ _ hD hb) ?_
  rintro _ rfl
  refine z_al0 eX12_winnerNow_4 ?_
  refine z_al0 eX12_winnerNow_5 ?_
  refine z_ga eX12_winnerNow_6 fX12_35 zs117 (t := 122) rfl ?_
  refine z_ki eX12_winnerNow_9 ?_
  refine zr_iN eX12_winnerNow_10 zs122 (j := 2) (by omega) (by omega) ?_
  change zRW _ _ _ _ _ _ _ (cA h D (nS D) (allV D)) _
  rw [n1, show D 2 = ((D 2).toNat : Int) by omega]
  refine zc_vi1 eX12_winnerNow_11 lX12_323 tX12_winner zs117 (by decide) (Nat.le_of_ble_eq_true rfl) (r_winner _ _ _ n1 rfl hb (vB_congr hvc (inOf_b hb)) (allV D) cA_V (vB_sum3960 hb (inOf_b hb)) (D 2).toNat hst) ?_
  rintro _ g ⟨rfl, hfr⟩ -
  refine ze_i eX12_winnerNow_14 rfl ?_
  exact ⟨by unfold winNow allV; rw [winOf_congr hvc]; rfl, hfr⟩
