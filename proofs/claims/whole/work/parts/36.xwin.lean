-- the class tells who is left and who wins (written by wip/tools/specX6.py)
/-- what the class's rule (cells 24 to 27) holds -/
def rX (h : zHp) (D : Nat → Int) : Prop := h 24 0 = D 240 ∧ ∀ c : Nat, (c : Int) < D 240 → (D (241 + c) = 2 → h 25 c = 1) ∧ (D (241 + c) = 3 → h 25 c = 2) ∧ (D (241 + c) = 5 → h 25 c = 3 ∧ h 26 c = D (245 + c)) ∧ ((D (241 + c) = 0 ∨ D (241 + c) = 1 ∨ D (241 + c) = 4) → h 25 c = 0 ∧ ∃ mn : Nat, mn ≤ 8 ∧ h 26 c = (mn : Int) ∧ (∀ i : Nat, i < mn → h 27 (8 * c + i) = eachP D c i) ∧ ∀ q : Int, (mn : Int) ≤ q → eachP D c q = 0)
theorem rX.fr {h g : zHp} {D : Nat → Int} (hr : rX h D) (hfr : zFr 51 h g) : rX g D := by
  unfold rX at hr ⊢
  rw [hfr 24 (by decide), hfr 25 (by decide), hfr 26 (by decide), hfr 27 (by decide)]
  exact hr
theorem popc_one : ∀ s, s < 256 → popc s ≤ 1 → s = 0 ∨ (List.range 8).any (fun a => s == 2 ^ a) = true := by decide +kernel
theorem popc_p2 {s : Nat} (hs : s < 256) (h : popc s ≤ 1) : s = 0 ∨ ∃ a, s = 2 ^ a := by
  rcases popc_one s hs h with e | e
  · exact Or.inl e
  · obtain ⟨a, -, ha⟩ := List.any_eq_true.mp e
    exact Or.inr ⟨a, by simpa using ha⟩
theorem pick_only {p : Nat → Bool} {a : Nat} (h : ∀ k, p k = true → k = a) (n : Nat) : pickN p n = if a < n ∧ p a = true then 2 ^ a else 0 := by
  apply Nat.eq_of_testBit_eq
  intro k
  rw [pickN_bit]
  by_cases e : p k = true
  · have := h k e
    subst this
    by_cases z : k < n
    · rw [if_pos ⟨z, e⟩]; simp [z, e, Nat.testBit_two_pow]
    · rw [if_neg (fun q => z q.1)]; simp [z]
  · split
    · next q =>
      have : ¬ a = k := fun q2 => e (q2 ▸ q.2)
      simp [e, Nat.testBit_two_pow, this]
    · simp [e]
theorem tb_p2 {a k : Nat} (h : (2 ^ a).testBit k = true) : k = a := by
  rw [Nat.testBit_two_pow] at h
  simpa using (of_decide_eq_true h).symm
theorem pairF_one (D w : Nat → Int) (a : Nat) : ∀ r k, pairF D w (2 ^ a) r k = 2 ^ a := by
  intro r
  induction r with
  | zero => intro k; rfl
  | succ r ih =>
    intro k
    rw [pairF]
    split
    · next q => rw [tb_p2 q.1]
    · exact ih (k + 1)
theorem siftOf_one {D w : Nat → Int} (hb : dB D) (hvb : vB D w) (V : Int) {set c : Nat} (hc : c < 4) (hset : set < 2 ^ nN D) (h1 : popc set ≤ 1) : siftOf D w V set c = set := by
  rcases popc_p2 (p2_256 hb hset) h1 with e | ⟨a, e⟩
  · subst e; rfl
  · have ha : a < nN D := by
      rw [e] at hset
      exact (Nat.pow_lt_pow_iff_right (by omega)).mp hset
    have ht : set.testBit a = true := by rw [e, Nat.testBit_two_pow_self]
    have h0 : ¬ set = 0 := by
      intro q
      rw [q] at ht
      simp at ht
    unfold siftOf
    rw [if_neg h0]
    split
    · exact runF_stop D w V 8 set h1
    · split
      · rw [e]; exact pairF_one D w a _ _
      · split
        · unfold barOf
          rw [pick_only (a := a) (fun k hk => by
            unfold barP at hk
            rw [e] at hk
            simp only [Bool.and_eq_true] at hk
            exact tb_p2 hk.1)]
          by_cases z : a < nN D ∧ barP D w V set (D (245 + c)) a = true
          · rw [if_pos z, e]; split <;> rfl
          · rw [if_neg z, if_pos rfl]
        · unfold greatOf
          have hcn : 0 ≤ cntP D w set c a := by
            unfold cntP
            rw [if_pos ht]
            exact (ptl_b hb hvb hc set a (nS D) (Nat.le_refl _)).1
          have hbe : ∀ n, a < n → bestN (cntP D w set c) set n = cntP D w set c a ∧ True := by
            intro n
            induction n with
            | zero => intro q; omega
            | succ n ih =>
              intro q
              rw [bestN]
              by_cases z : a = n
              · subst z
                rw [if_pos ht]
                have : ∀ m, m ≤ a → bestN (cntP D w set c) set m = -1 := by
                  intro m
                  induction m with
                  | zero => intro _; rfl
                  | succ m ihm =>
                    intro hm
                    rw [bestN, if_neg (fun q => by rw [e] at q; have := tb_p2 q; omega)]
                    exact ihm (by omega)
                rw [this a (Nat.le_refl _)]
                exact ⟨by omega, trivial⟩
              · rw [if_neg (fun q => by rw [e] at q; have := tb_p2 q; omega)]
                exact ih (by omega)
          rw [pick_only (a := a) (fun k hk => by
            unfold grtP at hk
            simp only [Bool.and_eq_true] at hk
            have q := hk.1
            rw [e] at q
            exact tb_p2 q), if_pos ⟨ha, by unfold grtP; rw [ht, (hbe (nN D) ha).1]; simp⟩, e]
theorem lft_stay {D w : Nat → Int} (hb : dB D) (hvb : vB D w) (V : Int) {set : Nat} (hset : set < 2 ^ nN D) {k : Nat} (h1 : popc (lftOf D w V set k) ≤ 1) : ∀ n, k ≤ n → n ≤ 4 → lftOf D w V set n = lftOf D w V set k := by
  intro n
  induction n with
  | zero => intro h2 _; rw [show k = 0 by omega]
  | succ n ih =>
    intro h2 h3
    by_cases e : k = n + 1
    · rw [e]
    · have := ih (by omega) (by omega)
      rw [lftOf, this, siftOf_one hb hvb V (by omega) (lftOf_lt hset k) h1]
theorem x_leftOf_l (D w : Nat → Int) (P : Nat → Nat → Nat) (hb : dB D) (hp : pB D P) (hvb : vB D w) (va : Nat) (hva : zSH[va]? = some (20, 20)) (hv51 : ¬ va = 51) (h : zHp) (hx : hX h D P) (hr : rX h D) (hw : h va = w) (set : Nat) (hset : set < 2 ^ nN D) (n : Nat) (hn : (n : Int) ≤ D 240) : ∀ (r k : Nat) (g : zHp), k + r = n → zFr 51 h g → zRW mX2_leftOf 2 (0, 0) 6 [zA 50, zI set, zA va, zI n, zI (lftOf D w (sumN w (nS D)) set k : Nat), zI k] [] 143 g (zqi (fun v h' => (lftOf D w (sumN w (nS D)) set n : Int) = v ∧ zFr 51 h h')) := by
  have hcl := hb.2.2.2.2.2.2.1
  intro r
  induction r using Nat.strongRecOn with
  | ind r ih =>
    intro k g hk hfr
    have hxg := hx.fr hfr (by decide)
    have hwg : g va = w := (hfr va hv51).trans hw
    have hl := lftOf_lt (D := D) (w := w) (V := sumN w (nS D)) hset k
    have h256 := p2_256 hb hl
    refine z_il5 eX2_leftOf_6 ?_
    refine z_il3 eX2_leftOf_8 ?_
    refine z_cge eX2_leftOf_9 rfl (fun c9 => ?_) (fun c9 => ?_)
    · refine z_il4 eX2_leftOf_127 ?_
      refine ze_i eX2_leftOf_129 rfl ?_
      have e : k = n := by omega
      subst e
      exact ⟨rfl, hfr⟩
    · refine z_il5 eX2_leftOf_12 ?_
      refine z_ki eX2_leftOf_14 ?_
      refine z_cge eX2_leftOf_15 rfl (fun c15 => ?_) (fun c15 => ?_)
      · refine z_il4 eX2_leftOf_127 ?_
        refine ze_i eX2_leftOf_129 rfl ?_
        have e : k = n := by omega
        subst e
        exact ⟨rfl, hfr⟩
      · refine z_il4 eX2_leftOf_18 ?_
        refine zc_si1 eX2_leftOf_20 lX2_47 tJ6_bitCount_0f7a4 (by decide) (Nat.le_of_ble_eq_true rfl) (j_bit _ _ h256) ?_
        rintro _ _ ⟨rfl, rfl⟩ -
        refine z_ki eX2_leftOf_23 ?_
        refine z_cle eX2_leftOf_24 rfl (fun c24 => ?_) (fun c24 => ?_)
        · refine z_il4 eX2_leftOf_127 ?_
          refine ze_i eX2_leftOf_129 rfl ?_
          exact ⟨by rw [lft_stay hb hvb _ hset (k := k) (by omega) n (by omega) (by omega)], hfr⟩
        · have hrg := (hr.fr hfr).2 k (by omega)
          have hcb := hb.2.2.2.2.2.2.2 k (by omega)
          have hkd : (D (241 + k) = 2 ∧ g 25 k = 1) ∨ (D (241 + k) = 3 ∧ g 25 k = 2) ∨ (D (241 + k) = 5 ∧ g 25 k = 3) ∨ ((D (241 + k) = 0 ∨ D (241 + k) = 1 ∨ D (241 + k) = 4) ∧ g 25 k = 0) := by
            have q : D (241 + k) = 0 ∨ D (241 + k) = 1 ∨ D (241 + k) = 2 ∨ D (241 + k) = 3 ∨ D (241 + k) = 4 ∨ D (241 + k) = 5 := by omega
            rcases q with q | q | q | q | q | q
            · exact Or.inr (Or.inr (Or.inr ⟨Or.inl q, (hrg.2.2.2 (Or.inl q)).1⟩))
            · exact Or.inr (Or.inr (Or.inr ⟨Or.inr (Or.inl q), (hrg.2.2.2 (Or.inr (Or.inl q))).1⟩))
            · exact Or.inl ⟨q, hrg.1 q⟩
            · exact Or.inr (Or.inl ⟨q, hrg.2.1 q⟩)
            · exact Or.inr (Or.inr (Or.inr ⟨Or.inr (Or.inr q), (hrg.2.2.2 (Or.inr (Or.inr q))).1⟩))
            · exact Or.inr (Or.inr (Or.inl ⟨q, (hrg.2.2.1 q).1⟩))
          have hne : ¬ lftOf D w (sumN w (nS D)) set k = 0 := fun q => by rw [q] at c24; exact absurd c24 (by decide)
          refine z_al0 eX2_leftOf_27 ?_
          refine z_ga eX2_leftOf_28 fX2_25 zs50 (t := 24) rfl ?_
          refine z_ga eX2_leftOf_31 fX2_53 zs24 (t := 25) rfl ?_
          refine z_il5 eX2_leftOf_34 ?_
          refine zr_iN eX2_leftOf_36 zs25 (j := k) (by omega) (by omega) ?_
          by_cases q37_0 : g 25 k = 0
          · refine zt_in 0 eX2_leftOf_37 (by omega) (by decide) rfl (na := 64) rfl ?_
            obtain ⟨-, mn, m1, m2, m3, m4⟩ := hrg.2.2.2 (by omega)
            refine z_al0 eX2_leftOf_64 ?_
            refine z_il4 eX2_leftOf_65 ?_
            refine z_al2 eX2_leftOf_67 ?_
            refine z_il5 eX2_leftOf_68 ?_
            refine zc_vi3 eX2_leftOf_70 lX2_56 tX2_mostPoints zs50 (by decide) (Nat.le_of_ble_eq_true rfl) (x_pts D w P hb hp hvb va hva hv51 g hxg hwg _ hl k (by omega) mn m1 m2 m3 m4) ?_
            rintro _ g2 ⟨rfl, hfr2⟩ -
            have hsf : greatOf (cntP D w (lftOf D w (sumN w (nS D)) set k) k) (lftOf D w (sumN w (nS D)) set k) (nN D) = lftOf D w (sumN w (nS D)) set (k + 1) := by rw [lftOf, siftOf, if_neg hne, if_neg (by omega), if_neg (by omega), if_neg (by omega)]
            refine z_is4 eX2_leftOf_73 zn0 ?_
            refine z_goto eX2_leftOf_75 rfl ?_
            refine z_incN5 eX2_leftOf_121 zn0 (by omega) (by omega) ?_
            refine z_goto eX2_leftOf_124 rfl ?_
            rw [hsf]
            exact ih (r - 1) (by omega) (k + 1) _ (by omega) (hfr.tr hfr2)
          by_cases q37_1 : g 25 k = 1
          · refine zt_in 1 eX2_leftOf_37 (by omega) (by decide) rfl (na := 78) rfl ?_
            refine z_al0 eX2_leftOf_78 ?_
            refine z_il4 eX2_leftOf_79 ?_
            refine z_al2 eX2_leftOf_81 ?_
            refine zc_vi2 eX2_leftOf_82 lX2_59 tX2_runOff zs50 (by decide) (Nat.le_of_ble_eq_true rfl) (x_run D w P hb hp hvb va hva hv51 g hxg hwg _ hl) ?_
            rintro _ g2 ⟨rfl, hfr2⟩ -
            have hsf : runOf D w (sumN w (nS D)) (lftOf D w (sumN w (nS D)) set k) = lftOf D w (sumN w (nS D)) set (k + 1) := by rw [lftOf, siftOf, if_neg hne, if_pos (by omega)]
            refine z_is4 eX2_leftOf_85 zn0 ?_
            refine z_goto eX2_leftOf_87 rfl ?_
            refine z_incN5 eX2_leftOf_121 zn0 (by omega) (by omega) ?_
            refine z_goto eX2_leftOf_124 rfl ?_
            rw [hsf]
            exact ih (r - 1) (by omega) (k + 1) _ (by omega) (hfr.tr hfr2)
          by_cases q37_2 : g 25 k = 2
          · refine zt_in 2 eX2_leftOf_37 (by omega) (by decide) rfl (na := 90) rfl ?_
            refine z_al0 eX2_leftOf_90 ?_
            refine z_il4 eX2_leftOf_91 ?_
            refine z_al2 eX2_leftOf_93 ?_
            refine zc_vi2 eX2_leftOf_94 lX2_63 tX2_beatsEach zs50 (by decide) (Nat.le_of_ble_eq_true rfl) (x_beats D w P hb hp hvb va hva hv51 g hxg hwg _ hl) ?_
            rintro _ _ ⟨rfl, rfl⟩ -
            have hfr2 : zFr 51 g g := zFr.rf
            have hsf : pairOf D w (lftOf D w (sumN w (nS D)) set k) = lftOf D w (sumN w (nS D)) set (k + 1) := by rw [lftOf, siftOf, if_neg hne, if_neg (by omega), if_pos (by omega)]
            refine z_is4 eX2_leftOf_97 zn0 ?_
            refine z_goto eX2_leftOf_99 rfl ?_
            refine z_incN5 eX2_leftOf_121 zn0 (by omega) (by omega) ?_
            refine z_goto eX2_leftOf_124 rfl ?_
            rw [hsf]
            exact ih (r - 1) (by omega) (k + 1) _ (by omega) (hfr.tr hfr2)
          refine zt_out eX2_leftOf_37 (by omega) (na := 102) rfl ?_
          refine z_al0 eX2_leftOf_102 ?_
          refine z_il4 eX2_leftOf_103 ?_
          refine z_al2 eX2_leftOf_105 ?_
          refine z_al0 eX2_leftOf_106 ?_
          refine z_ga eX2_leftOf_107 fX2_25 zs50 (t := 24) rfl ?_
          refine z_ga eX2_leftOf_110 fX2_66 zs24 (t := 26) rfl ?_
          refine z_il5 eX2_leftOf_113 ?_
          refine zr_iN eX2_leftOf_115 zs26 (j := k) (by omega) (by omega) ?_
          rw [(hrg.2.2.1 (by omega)).2]
          refine zc_vi3 eX2_leftOf_116 lX2_69 tX2_aboveBar zs50 (by decide) (Nat.le_of_ble_eq_true rfl) (x_bar D w P hb hp hvb va hva hv51 g hxg hwg _ hl _ (by omega)) ?_
          rintro _ g2 ⟨rfl, hfr2⟩ -
          have hsf : barOf D w (sumN w (nS D)) (lftOf D w (sumN w (nS D)) set k) (D (245 + k)) = lftOf D w (sumN w (nS D)) set (k + 1) := by rw [lftOf, siftOf, if_neg hne, if_neg (by omega), if_neg (by omega), if_pos (by omega)]
          refine z_is4 eX2_leftOf_119 zn0 ?_
          refine z_incN5 eX2_leftOf_121 zn0 (by omega) (by omega) ?_
          refine z_goto eX2_leftOf_124 rfl ?_
          rw [hsf]
          exact ih (r - 1) (by omega) (k + 1) _ (by omega) (hfr.tr hfr2)
theorem x_leftOf (D w : Nat → Int) (P : Nat → Nat → Nat) (hb : dB D) (hp : pB D P) (hvb : vB D w) (va : Nat) (hva : zSH[va]? = some (20, 20)) (hv51 : ¬ va = 51) (h : zHp) (hx : hX h D P) (hr : rX h D) (hw : h va = w) (set : Nat) (hset : set < 2 ^ nN D) (n : Nat) (hn : (n : Int) ≤ D 240) : zCi mX2_leftOf 2 [zA 50, zI set, zA va, zI n] h (fun v h' => (lftOf D w (sumN w (nS D)) set n : Int) = v ∧ zFr 51 h h') := by
  refine z_enter [zA 50, zI set, zA va, zI n, zU, zU] (by decide +kernel) (Nat.le_of_ble_eq_true rfl) rfl (fun hra hrg => ?_)
  refine z_il1 eX2_leftOf_0 ?_
  refine z_is4 eX2_leftOf_1 zn0 ?_
  refine z_ki eX2_leftOf_3 ?_
  refine z_is5 eX2_leftOf_4 zn0 ?_
  exact x_leftOf_l D w P hb hp hvb va hva hv51 h hx hr hw set hset n hn n 0 h (Nat.zero_add _) zFr.rf
def isW (D : Nat → Int) (left n : Nat) (b : Int) : Prop := 0 ≤ b ∧ b < n ∧ left.testBit b.toNat = true ∧ ∀ j : Nat, j < n → left.testBit j = true → D (11 + b.toNat) ≤ D (11 + j)
theorem winF_isW (D : Nat → Int) (left : Nat) : ∀ (r k : Nat) (b : Int), (isW D left k b ∨ (b = -1 ∧ ∀ j, j < k → left.testBit j = false)) → (isW D left (k + r) (winF D left r k b) ∨ (winF D left r k b = -1 ∧ ∀ j, j < k + r → left.testBit j = false)) := by
  intro r
  induction r with
  | zero => intro k b h; exact h
  | succ r ih =>
    intro k b h
    rw [winF, show k + (r + 1) = k + 1 + r by omega]
    apply ih
    split
    · next q =>
      left
      refine ⟨by omega, by omega, by simpa using q.1, fun j hj hs => ?_⟩
      rw [Int.toNat_natCast]
      by_cases e : j = k
      · subst e; exact Int.le_refl _
      · rcases h with ⟨h1, h2, h3, h4⟩ | ⟨h1, h2⟩
        · have := h4 j (by omega) hs
          have := q.2
          omega
        · rw [h2 j (by omega)] at hs
          cases hs
    · next q =>
      rcases h with ⟨h1, h2, h3, h4⟩ | ⟨h1, h2⟩
      · left
        refine ⟨h1, by omega, h3, fun j hj hs => ?_⟩
        by_cases e : j = k
        · subst e
          have z2 : ¬ (b < 0 ∨ D (11 + j) < D (11 + b.toNat)) := fun q' => q ⟨hs, q'⟩
          omega
        · exact h4 j (by omega) hs
      · right
        refine ⟨h1, fun j hj => ?_⟩
        by_cases e : j = k
        · subst e
          cases z : left.testBit j with
          | false => rfl
          | true => exact absurd ⟨z, Or.inl (by omega)⟩ q
        · exact h2 j (by omega)
theorem isW_one {D : Nat → Int} {left n : Nat} (hin : ∀ a b : Nat, a < n → b < n → D (11 + a) = D (11 + b) → a = b) {l m : Int} (h1 : isW D left n l) (h2 : isW D left n m) : l = m := by
  obtain ⟨a1, a2, a3, a4⟩ := h1
  obtain ⟨b1, b2, b3, b4⟩ := h2
  have q1 := a4 m.toNat (by omega) b3
  have q2 := b4 l.toNat (by omega) a3
  have := hin l.toNat m.toNat (by omega) (by omega) (by omega)
  omega
theorem x_winner_l (D : Nat → Int) (P : Nat → Nat → Nat) (hb : dB D) (va : Nat) (st : Int) (left : Nat) (hl : left < 2 ^ nN D) (g : zHp) (hx : hX g D P) (Q : Int → zHp → Prop) (hq : Q (winF D left (nN D) 0 (-1)) g) : ∀ (r p : Nat), p + r = nN D → (∀ j : Nat, j < nN D → left.testBit j = true → (p : Int) ≤ D (11 + j)) → zRW mX2_winnerOf 3 (0, 0) 17 [zA 50, zI st, zA va, zI left, zI p] [] 143 g (zqi Q) := by
  have hN := nN_eq hb
  have hN8 := nN_le hb
  have h256 := p2_256 hb hl
  obtain ⟨x0, x1, x2, x3⟩ := id hx
  have hM := winF_isW D left (nN D) 0 (-1) (Or.inr ⟨rfl, fun j hj => by omega⟩)
  rw [Nat.zero_add] at hM
  intro r
  induction r using Nat.strongRecOn with
  | ind r ih =>
    intro p hpr hno
    refine z_il4 eX2_winnerOf_17 ?_
    refine z_al0 eX2_winnerOf_19 ?_
    refine z_ga eX2_winnerOf_20 fX2_21 zs50 (t := 4) rfl ?_
    refine z_gi eX2_winnerOf_23 fX2_39 zs4 ?_
    refine z_cge eX2_winnerOf_26 rfl (fun c26 => ?_) (fun c26 => ?_)
    · refine z_ki eX2_winnerOf_63 ?_
      refine ze_i eX2_winnerOf_64 rfl ?_
      rcases hM with z | z
      · have := hno _ (by have := z.1; have := z.2.1; omega) z.2.2.1
        have := hb.2.2.2.2.2.1 (winF D left (nN D) 0 (-1)).toNat (by have := z.1; have := z.2.1; omega)
        omega
      · rw [z.1] at hq
        exact hq
    · have hti := x3 p (by omega)
      obtain ⟨nm, hnm⟩ : ∃ nm : Nat, g 7 p = (nm : Int) := ⟨(g 7 p).toNat, by omega⟩
      have hnm8 : nm < nN D := by omega
      have htn : D (11 + nm) = (p : Int) := by have := hti.2.2.1; rwa [hnm, Int.toNat_natCast] at this
      refine z_il3 eX2_winnerOf_29 ?_
      refine z_al0 eX2_winnerOf_30 ?_
      refine z_ga eX2_winnerOf_31 fX2_21 zs50 (t := 4) rfl ?_
      refine z_ga eX2_winnerOf_34 fX2_44 zs4 (t := 7) rfl ?_
      refine z_il4 eX2_winnerOf_37 ?_
      refine zr_iN eX2_winnerOf_39 zs7 (j := p) (by omega) (by omega) ?_
      rw [hnm]
      refine z_ishr eX2_winnerOf_40 ?_
      refine z_ki eX2_winnerOf_41 ?_
      refine z_iand eX2_winnerOf_42 ?_
      refine z_ieq eX2_winnerOf_43 rfl (fun c43 => ?_) (fun c43 => ?_)
      · refine z_incN4 eX2_winnerOf_57 zn0 (by omega) (by omega) ?_
        refine z_goto eX2_winnerOf_60 rfl ?_
        rw [kb_b0 (by omega) (by omega)] at c43
        exact ih (r - 1) (by omega) (p + 1) (by omega) (fun j hj hs => by
          have := hno j hj hs
          by_cases e : D (11 + j) = (p : Int)
          · have := hx.tin j nm hj hnm8 (by omega)
            rw [this, c43] at hs
            cases hs
          · omega)
      · refine z_al0 eX2_winnerOf_46 ?_
        refine z_ga eX2_winnerOf_47 fX2_21 zs50 (t := 4) rfl ?_
        refine z_ga eX2_winnerOf_50 fX2_44 zs4 (t := 7) rfl ?_
        refine z_il4 eX2_winnerOf_53 ?_
        refine zr_iN eX2_winnerOf_55 zs7 (j := p) (by omega) (by omega) ?_
        rw [hnm]
        refine ze_i eX2_winnerOf_56 rfl ?_
        rw [kb_b0 (by omega) (by omega)] at c43
        have tb : left.testBit nm = true := by simpa using c43
        have hW : isW D left (nN D) (nm : Int) := ⟨by omega, by omega, by simpa using tb, fun j hj hs => by rw [Int.toNat_natCast, htn]; exact hno j hj hs⟩
        rcases hM with z | z
        · rw [isW_one hx.tin z hW] at hq
          exact hq
        · rw [z.2 nm hnm8] at tb
          cases tb
theorem x_winner (D w : Nat → Int) (P : Nat → Nat → Nat) (hb : dB D) (hp : pB D P) (hvb : vB D w) (va : Nat) (hva : zSH[va]? = some (20, 20)) (hv51 : ¬ va = 51) (h : zHp) (hx : hX h D P) (hr : rX h D) (hw : h va = w) (set : Nat) (hset : set < 2 ^ nN D) : zCi mX2_winnerOf 3 [zA 50, zI set, zA va] h (fun v h' => winOf D w (sumN w (nS D)) set = v ∧ zFr 51 h h') := by
  refine z_enter [zA 50, zI set, zA va, zU, zU] (by decide +kernel) (Nat.le_of_ble_eq_true rfl) rfl (fun hra hrg => ?_)
  have hcl := hb.2.2.2.2.2.2.1
  refine z_al0 eX2_winnerOf_0 ?_
  refine z_il1 eX2_winnerOf_1 ?_
  refine z_al2 eX2_winnerOf_2 ?_
  refine z_al0 eX2_winnerOf_3 ?_
  refine z_ga eX2_winnerOf_4 fX2_25 zs50 (t := 24) rfl ?_
  refine z_gi eX2_winnerOf_7 fX2_29 zs24 ?_
  rw [hr.1, show D 240 = ((D 240).toNat : Int) by omega]
  refine zc_vi3 eX2_winnerOf_10 lX2_35 tX2_leftOf zs50 (by decide) (Nat.le_of_ble_eq_true rfl) (x_leftOf D w P hb hp hvb va hva hv51 h hx hr hw set hset (D 240).toNat (by omega)) ?_
  rintro _ g ⟨rfl, hfr⟩ -
  refine z_is3 eX2_winnerOf_13 zn2 ?_
  refine z_ki eX2_winnerOf_14 ?_
  refine z_is4 eX2_winnerOf_15 zn0 ?_
  exact x_winner_l D P hb va _ _ (lftOf_lt hset _) g (hx.fr hfr (by decide)) _ ⟨rfl, hfr⟩ (nN D) 0 (Nat.zero_add _) (fun j hj hs => by have := hb.2.2.2.2.2.1 j hj; omega)
