-- the class tells who is left and who wins (written by wip/tools/specX6.py)
/-- what the class's rule (cells 24 to 27) holds -/
def rX (h : zHp) (D : Nat → Int) : Prop := h 24 0 = D 240 ∧ ∀ c : Nat, (c : Int) < D 240 → (D (241 + c) = 2 → h 25 c = 1) ∧ (D (241 + c) = 3 → h 25 c = 2) ∧ (D (241 + c) = 5 → h 25 c = 3 ∧ h 26 c = D (245 + c)) ∧ ((D (241 + c) = 0 ∨ D (241 + c) = 1 ∨ D (241 + c) = 4) → h 25 c = 0 ∧ ∃ mn : Nat, mn ≤ 8 ∧ h 26 c = (mn : Int) ∧ (∀ i : Nat, i < mn → h 27 (8 * c + i) = eachP D c i) ∧ ∀ q : Int, (mn : Int) ≤ q → eachP D c q = 0)
theorem rX.fr {h g : zHp} {D : Nat → Int} (hr : rX h D) (hfr : zFr 51 h g) : rX g D := by
  unfold rX at hr ⊢
  rw [hfr 24 (by decide), hfr 25 (by decide), hfr 26 (by decide), hfr 27 (by decide)]
  exact hr
theorem popc_one : ∀ s, s < 256 → popc s ≤ 1 → s = 0 ∨ (List.range 8).any (fun a => s == 2 ^ a) = true := by decide +kernel
theorem popc_p2 {s : Nat} (hs : s < 256) (h : popc s ≤ 1) : s = 0 ∨ ∃ a, s = 2 ^ a := by
  rcases popc_one s hs h with e | e
  · exact Or.inl e
  · obtain ⟨a, -, ha⟩ := List.any_eq_true.mp e
    exact Or.inr ⟨a, by simpa using ha⟩
theorem pick_only {p : Nat → Bool} {a : Nat} (h : ∀ k, p k = true → k = a) (n : Nat) : pickN p n = if a < n ∧ p a = true then 2 ^ a else 0 := by
  apply Nat.eq_of_testBit_eq
  intro k
  rw [pickN_bit]
  by_cases e : p k = true
  · have := h k e
    subst this
    by_cases z : k < n
    · rw [if_pos ⟨z, e⟩]; simp [z, e, Nat.testBit_two_pow]
    · rw [if_neg (fun q => z q.1)]; simp [z]
  · split
    · next q =>
      have : ¬ a = k := fun q2 => e (q2 ▸ q.2)
      simp [e, Nat.testBit_two_pow, this]
    · simp [e]
theorem tb_p2 {a k : Nat} (h : (2 ^ a).testBit k = true) : k = a := by
  rw [Nat.testBit_two_pow] at h
  simpa using (of_decide_eq_true h).symm
theorem pairF_one (D w : Nat → Int) (a : Nat) : ∀ r k, pairF D w (2 ^ a) r k = 2 ^ a := by
  intro r
  induction r with
  | zero => intro k; rfl
  | succ r ih =>
    intro k
    rw [pairF]
    split
    · next q => rw [tb_p2 q.1]
    · exact ih (k + 1)
theorem siftOf_one {D w : Nat → Int} (hb : dB D) (hvb : vB D w) (V : Int) {set c : Nat} (hc : c < 4) (hset : set < 2 ^ nN D) (h1 : popc set ≤ 1) : siftOf D w V set c = set := by
  rcases popc_p2 (p2_256 hb hset) h1 with e | ⟨a, e⟩
  · subst e; rfl
  · have ha : a < nN D := by
      rw [e] at hset
      exact (Nat.pow_lt_pow_iff_right (by omega)).mp hset
    have ht : set.testBit a = true := by rw [e, Nat.testBit_two_pow_self]
    have h0 : ¬ set = 0 := by
      intro q
      rw [q] at ht
      simp at ht
    unfold siftOf
    rw [if_neg h0]
    split
    · exact runF_stop D w V 8 set h1
    · split
      · rw [e]; exact pairF_one D w a _ _
      · split
        · unfold barOf
          rw [pick_only (a := a) (fun k hk => by
            unfold barP at hk
            rw [e] at hk
            simp only [Bool.and_eq_true] at hk
            exact tb_p2 hk.1)]
          by_cases z : a < nN D ∧ barP D w V set (D (245 + c)) a = true
          · rw [if_pos z, e]; split <;> rfl
          · rw [if_neg z, if_pos rfl]
        · unfold greatOf
          have hcn : 0 ≤ cntP D w set c a := by
            unfold cntP
            rw [if_pos ht]
            exact (ptl_b hb hvb hc set a (nS D) (Nat.le_refl _)).1
          have hbe : ∀ n, a < n → bestN (cntP D w set c) set n = cntP D w set c a ∧ True := by
            intro n
            induction n with
            | zero => intro q; omega
            | succ n ih =>
              intro q
              rw [bestN]
              by_cases z : a = n
              · subst z
                rw [if_pos ht]
                have : ∀ m, m ≤ a → bestN (cntP D w set c) set m = -1 := by
                  intro m
                  induction m with
                  | zero => intro _; rfl
                  | succ m ihm =>
                    intro hm
                    rw [bestN, if_neg (fun q => by rw [e] at q; have := tb_p2 q; omega)]
                    exact ihm (by omega)
                rw [this a (Nat.le_refl _)]
                exact ⟨by omega, trivial⟩
              · rw [if_neg (fun q => by rw [e] at q; have := tb_p2 q; omega)]
                exact ih (by omega)
          rw [pick_only (a := a) (fun k hk => by
            unfold grtP at hk
            simp only [Bool.and_eq_true] at hk
            have q := hk.1
            rw [e] at q
            exact tb_p2 q), if_pos ⟨ha, by unfold grtP; rw [ht, (hbe (nN D) ha).1]; simp⟩, e]
theorem lft_stay {D w : Nat → Int} (hb : dB D) (hvb : vB D w) (V : Int) {set : Nat} (hset : set < 2 ^ nN D) {k : Nat} (h1 : popc (lftOf D w V set k) ≤ 1) : ∀ n, k ≤ n → n ≤ 4 → lftOf D w V set n = lftOf D w V set k := by
  intro n
  induction n with
  | zero => intro h2 _; rw [show k = 0 by omega]
  | succ n ih =>
    intro h2 h3
    by_cases e : k = n + 1
    · rw [e]
    · have := ih (by omega) (by omega)
      rw [lftOf, this, siftOf_one hb hvb V (by omega) (lftOf_lt hset k) h1]
theorem x_leftOf_l (D w : Nat → Int) (P : Nat → Nat → Nat) (hb : dB D) (hp : pB D P) (hvb : vB D w) (va : Nat) (hva : zSH[va]? = some (20, 20)) (hv51 : ¬ va = 51) (h : zHp) (hx : hX h D P) (hr : rX h D) (hw : h va = w) (set : Nat) (hset : set < 2 ^ nN D) (n : Nat) (hn : (n : Int) ≤ D 240) : ∀ (r k : Nat) (g : zHp), k + r = n → zFr 51 h g → zRW mX2_leftOf 2 (0, 0) 6 [zA 50, zI set, zA va, zI n, zI (lftOf D w (sumN w (nS D)) set k : Nat), zI k] [] 143 g (zqi (fun v h' => (lftOf D w (sumN w (nS D)) set n : Int) = v ∧ zFr 51 h h')) := by
  have hcl := hb.2.2.2.2.2.2.1
  intro r
  induction r using Nat.strongRecOn with
  | ind r ih =>
    intro k g hk hfr
    have hxg := hx.fr hfr (by decide)
    have hwg : g va = w := (hfr va hv51).trans hw
    have hl := lftOf_lt (D := D) (w := w) (V := sumN w (nS D)) hset k
    have h256 := p2_256 hb hl
    refine z_il5 eX2_leftOf_6 ?_
    refine z_il3 eX2_leftOf_8 ?_
    refine z_cge eX2_leftOf_9 rfl (fun c9 => ?_) (fun c9 => ?_)
    · refine z_il4 eX2_leftOf_127 ?_
      refine ze_i eX2_leftOf_129 rfl ?_
      have e : k = n := by omega
      subst e
      exact ⟨rfl, hfr⟩
    · refine z_il5 eX2_leftOf_12 ?_
      refine z_ki eX2_leftOf_14 ?_
      refine z_cge eX2_leftOf_15 rfl (fun c15 => ?_) (fun c15 => ?_)
      · refine z_il4 eX2_leftOf_127 ?_
        refine ze_i eX2_leftOf_129 rfl ?_
        have e : k = n := by omega
        subst e
        exact ⟨rfl, hfr⟩
      · refine z_il4 eX2_leftOf_18 ?_
        refine zc_si1 eX2_leftOf_20 lX2_47 tJ6_bitCount_0f7a4 (by decide) (Nat.le_of_ble_eq_true rfl) (j_bit _ _ h256) ?_
        rintro _ _ ⟨rfl, rfl⟩ -
        refine z_ki eX2_leftOf_23 ?_
        refine z_cle eX2_leftOf_24 rfl (fun c24 => ?_) (fun c24 => ?_)
        · refine z_il4 eX2_leftOf_127 ?_
          refine ze_i eX2_leftOf_129 rfl ?_
          exact ⟨by rw [lft_stay hb hvb _ hset (k := k) (by omega) n (by omega) (by omega)], hfr⟩
        · have hrg := (hr.fr hfr).2 k (by omega)
          have hcb := hb.2.2.2.2.2.2.2 k (by omega)
          have hkd : (D (241 + k) = 2 ∧ g 25 k = 1) ∨ (D (241 + k) = 3 ∧ g 25 k = 2) ∨ (D (241 + k) = 5 ∧ g 25 k = 3) ∨ ((D (241 + k) = 0 ∨ D (241 + k) = 1 ∨ D (241 + k) = 4) ∧ g 25 k = 0) := by
            have q : D (241 + k) = 0 ∨ D (241 + k) = 1 ∨ D (241 + k) = 2 ∨ D (241 + k) = 3 ∨ D (241 + k) = 4 ∨ D (241 + k) = 5 := by omega
            rcases q with q | q | q | q | q | q
            · exact Or.inr (Or.inr (Or.inr ⟨Or.inl q, (hrg.2.2.2 (Or.inl q)).1⟩))
            · exact Or.inr (Or.inr (Or.inr ⟨Or.inr (Or.inl q), (hrg.2.2.2 (Or.inr (Or.inl q))).1⟩))
            · exact Or.inl ⟨q, hrg.1 q⟩
            · exact Or.inr (Or.inl ⟨q, hrg.2.1 q⟩)
            · exact Or.inr (Or.inr (Or.inr ⟨Or.inr (Or.inr q), (hrg.2.2.2 (Or.inr (Or.inr q))).1⟩))
            · exact Or.inr (Or.inr (Or.inl ⟨q, (hrg.2.2.1 q).1⟩))
          have hne : ¬ lftOf D w (sumN w (nS D)) set k = 0 := fun q => by rw [q] at c24; exact absurd c24 (by decide)
          refine z_al0 eX2_leftOf_27 ?_
          refine z_ga eX2_leftOf_28 fX2_25 zs50 (t := 24) rfl ?_
          refine z_ga eX2_leftOf_31 fX2_53 zs24 (t := 25) rfl ?_
          refine z_il5 eX2_leftOf_34 ?_
          refine zr_iN eX2_leftOf_36 zs25 (j := k) (by omega) (by omega) ?_
          by_cases q37_0 : g 25 k = 0
          · refine zt_in 0 eX2_leftOf_37 (by omega) (by decide) rfl (na := 64) rfl ?_
            obtain ⟨-, mn, m1, m2, m3, m4⟩ := hrg.2.2.2 (by omega)
            refine z_al0 eX2_leftOf_64 ?_
            refine z_il4 eX2_leftOf_65 ?_
            refine z_al2 eX2_leftOf_67 ?_
            refine z_il5 eX2_leftOf_68 ?_
            refine zc_vi3 eX2_leftOf_70 lX2_56 tX2_mostPoints zs50 (by decide) (Nat.le_of_ble_eq_true rfl) (x_pts D w P hb hp hvb va hva hv51 g hxg hwg _ hl k (by omega) mn m1 m2 m3 m4) ?_
            rintro _ g2 ⟨rfl, hfr2⟩ -
            have hsf : greatOf (cntP D w (lftOf D w (sumN w (nS D)) set k) k) (lftOf D w (sumN w (nS D)) set k) (nN D) = lftOf D w (sumN w (nS D)) set (k + 1) := by rw [lftOf, siftOf, if_neg hne, if_neg (by omega), if_neg (by omega), if_neg (by omega)]
            refine z_is4 eX2_leftOf_73 zn0 ?_
            refine z_goto eX2_leftOf_75 rfl ?_
            refine z_incN5 eX2_leftOf_121 zn0 (by omega) (by omega) ?_
            refine z_goto eX2_leftOf_124 rfl ?_
            rw [hsf]
            exact ih (r - 1) (by omega) (k + 1) _ (by omega) (hfr.tr hfr2)
          by_cases q37_1 : g 25 k = 1
          · refine zt_in 1 eX2_leftOf_37 (by omega) (by decide) rfl (na := 78) rfl ?_
            refine z_al0 eX2_leftOf_78 ?_
            refine z_il4 eX2_leftOf_79 ?_
            refine z_al2 eX2_leftOf_81 ?_
            refine zc_vi2 eX2_leftOf_82 lX2_59 tX2_runOff zs50 (by decide) (Nat.le_of_ble_eq_true rfl) (x_run D w P hb hp hvb va hva hv51 g hxg hwg _ hl) ?_
            rintro _ g2 ⟨rfl, hfr2⟩ -
            have hsf : runOf D w (sumN w (nS D)) (lftOf D w (sumN w (nS D)) set k) = lftOf D w (sumN w (nS D)) set (k + 1) := by rw [lftOf, siftOf, if_neg hne, if_pos (by omega)]
            refine z_is4 eX2_leftOf_85 zn0 ?_
            refine z_goto eX2_leftOf_87 rfl ?_
            refine z_incN5 eX2_leftOf_121 zn0 (by omega) (by omega) ?_
            refine z_goto eX2_leftOf_124 rfl ?_
            rw [hsf]
            exact ih (r - 1) (by omega) (k + 1) _ (by omega) (hfr.tr hfr2)
          by_cases q37_2 : g 25 k = 2
          · refine zt_in 2 eX2_leftOf_37 (by omega) (by decide) rfl (na := 90) rfl ?_
            refine z_al0 eX2_leftOf_90 ?_
            refine z_il4 eX2_leftOf_91 ?_
            refine z_al2 eX2_leftOf_93 ?_
            refine zc_vi2 eX2_leftOf_94 lX2_63 tX2_beatsEach zs50 (by decide) (Nat.le_of_ble_eq_true rfl) (x_beats D w P hb hp hvb va hva hv51 g hxg hwg _ hl) ?_
            rintro _ _ ⟨rfl, rfl⟩ -
            have hfr2 : zFr 51 g g := zFr.rf
            have hsf : pairOf D w (lftOf D w (sumN w (nS D)) set k) = lftOf D w (sumN w (nS D)) set (k + 1) := by rw [lftOf, siftOf, if_neg hne, if_neg (by omega), if_pos (by omega)]
            refine z_is4 eX2_leftOf_97 zn0 ?_
            refine z_goto eX2_leftOf_99 rfl ?_
            refine z_incN5 eX2_leftOf_121 zn0 (by omega) (by omega) ?_
            refine z_goto eX2_leftOf_124 rfl ?_
            rw [hsf]
            exact ih (r - 1) (by omega) (k + 1) _ (by omega) (hfr.tr hfr2)
          refine zt_out eX2_leftOf_37 (by omega) (na := 102) rfl ?_
          refine z_al0 eX2_leftOf_102 ?_
          refine z_il4 eX2_leftOf_103 ?_
          refine z_al2 eX2_leftOf_105 ?_
          refine z_al0 eX2_leftOf_106 ?_
          refine z_ga eX2_leftOf_107 fX2_25 zs50 (t := 24) rfl ?_
          refine z_ga eX2_leftOf_110 fX2_66 zs24 (t := 26) rfl ?_
          refine z_il5 eX2_leftOf_113 ?_
          refine zr_iN eX2_leftOf_115 zs26 (j := k) (by omega) (by omega) ?_
          rw [(hrg.2.2.1 (by omega)).2]
          refine zc_vi3 eX2_leftOf_116 lX2_69 tX2_aboveBar zs50 (by decide) (Nat.le_of_ble_eq_true rfl) (x_bar D w P hb hp hvb va hva hv51 g hxg hwg _ hl _ (by omega)) ?_
          rintro _ g2 ⟨rfl, hfr2⟩ -
          have hsf : barOf D w (sumN w (nS D)) (lftOf D w (sumN w (nS D)) set k) (D (245 + k)) = lftOf D w (sumN w (nS D)) set (k + 1) := by rw [lftOf, siftOf, if_neg hne, if_neg (by omega), if_neg (by omega), if_pos (by omega)]
          refine z_is4 eX2_leftOf_119 zn0 ?_
          refine z_incN5 eX2_leftOf_121 zn0 (by omega) (by omega) ?_
          refine z_goto eX2_leftOf_124 rfl ?_
          rw [hsf]
          exact ih (r - 1) (by omega) (k + 1) _ (by omega) (hfr.tr hfr2)
theorem x_leftOf (D w : Nat → Int) (P : Nat → Nat → Nat) (hb : dB D) (hp : pB D P) (hvb : vB D w) (va : Nat) (hva : zSH[va]? = some (20, 20)) (hv51 : ¬ va = 51) (h : zHp) (hx : hX h D P) (hr : rX h D) (hw : h va = w) (set : Nat) (hset : set < 2 ^ nN D) (n : Nat) (hn : (n : Int) ≤ D 240) : zCi mX2_leftOf 2 [zA 50, zI set, zA va, zI n] h (fun v h' => (lftOf D w (sumN w (nS D)) set n : Int) = v ∧ zFr 51 h h') := by
  refine z_enter [zA 50, zI set, zA va, zI n, zU, zU] (by decide +kernel) (Nat.le_of_ble_eq_true rfl) rfl (fun hra hrg => ?_)
  refine z_il1 eX2_leftOf_0 ?_
  refine z_is4 eX2_leftOf_1 zn0 ?_
  refine z_ki eX2_leftOf_3 ?_
  refine z_is5 eX2_leftOf_4 zn0 ?_
  exact x_leftOf_l D w P hb hp hvb va hva hv51 h hx hr hw set hset n hn n 0 h (Nat.zero_add _) zFr.rf
