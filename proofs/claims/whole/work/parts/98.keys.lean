-- key words, signs and numbers, class and reference (written by wip/tools/specY4.py)
theorem zCall.wkn {M : zM} {k : Nat} {b : Nat × Nat} {as : List zV} {n : Nat} {h : zHp} {Q Q' : Option zV → Nat → zHp → Prop} (H : zCall M k b as n h Q) (f : ∀ r n h, Q r n h → Q' r n h) : zCall M k b as n h Q' := fun l G d hk p e h1 h2 h3 s m args below hf hs hP hK => by
  obtain ⟨n, o, a1, a2, a3, ⟨⟨r, n2, h4, q1, q2, q3, q4⟩, q5⟩, q6⟩ := H l G d hk p e h1 h2 h3 s m args below hf hs hP hK
  exact ⟨n, o, a1, a2, a3, ⟨⟨r, n2, h4, q1, q2, f _ _ _ q3, q4⟩, q5⟩, q6⟩
theorem zCi.wkn {M : zM} {k : Nat} {as : List zV} {h : zHp} {Q Q' : Int → zHp → Prop} (H : zCi M k as h Q) (f : ∀ v h', Q v h' → Q' v h') : zCi M k as h Q' := zCall.wkn H (fun r n h2 q => ⟨q.1, q.2.choose, q.2.choose_spec.1, f _ _ q.2.choose_spec.2⟩)
theorem zCv.wkn {M : zM} {k : Nat} {as : List zV} {h : zHp} {Q Q' : zHp → Prop} (H : zCv M k as h Q) (f : ∀ h', Q h' → Q' h') : zCv M k as h Q' := zCall.wkn H (fun r n h2 q => ⟨q.1, q.2.1, f _ q.2.2⟩)
/-- the number of a key word -/
def kC (j : Nat) : Int := wdF (kB j) 0 (kL j)
theorem kC_pos : ∀ j : Nat, j < 22 → 0 < kC j := by decide +kernel
/-- the class's tape stands behind the piece at or behind q; the reference's -/
def xTk (B : Nat → Int) (L q : Nat) (g : zHp) : Prop := g 2 4 = tkK B L q ∧ g 2 5 = (tkA B L q : Int) ∧ (tkK B L q = 1 → g 2 7 = tkW B L q) ∧ (tkK B L q = 2 → g 2 6 = tkV B L q) ∧ (¬ tkK B L q = 4 → g 2 3 = (tkE B L q : Int))
def mTk (B : Nat → Int) (L q : Nat) (g : zHp) : Prop := g 117 14 = tkK B L q ∧ g 117 15 = (tkA B L q : Int) ∧ (tkK B L q = 1 → (tkW B L q = 0 → g 117 19 = -1 ∧ 8 < g 117 18) ∧ (¬ tkW B L q = 0 → g 117 19 = tkW B L q ∧ g 117 18 ≤ 8)) ∧ (tkK B L q = 2 → g 117 17 = tkV B L q) ∧ (¬ tkK B L q = 4 → g 117 16 = (tkE B L q : Int))
theorem mTk_of {B : Nat → Int} {L q : Nat} {g : zHp} (hq : q ≤ L) (T : mTa B L (tkA B L q) g) : mTk B L q g := by
  refine ⟨T.1, T.2.1, fun k1 => ⟨fun z => ?_, fun z => ?_⟩, T.2.2.2.1, T.2.2.2.2⟩
  · exact (T.2.2.1 k1).1 ((kW_b (tkA_b hq).2 k1).2.2.1 z)
  · exact (T.2.2.1 k1).2 (fun y => z ((kW_b (tkA_b hq).2 k1).2.2.2 y))
theorem x_adv (h : zHp) (B : Nat → Int) (L : Nat) (hB : xB h B L) (q : Nat) (hq : q ≤ L) (e3 : h 2 3 = (q : Int)) : zCv mX9_advance 2 [zA 2] h (fun h' => xFr h h' ∧ xTk B L q h') := x_advance h B L hB q hq e3
theorem r_nx (h : zHp) (B : Nat → Int) (L : Nat) (hB : mB h B L) (q : Nat) (hq : q ≤ L) (e16 : h 117 16 = (q : Int)) : zCv mX12_next 1 [zA 117] h (fun h' => mFr h h' ∧ mTk B L q h') := (r_next h B L hB q hq e16).wkn (fun _ z => ⟨z.1, mTk_of hq z.2⟩)
theorem at_iff {B : Nat → Int} {L q j : Nat} (hq : q ≤ L) (hj : j < 22) (k1 : tkK B L q = 1) : tkW B L q = kC j ↔ tkE B L q - tkA B L q = kL j ∧ ∀ i : Nat, i < kL j → B (tkA B L q + i) = kB j i := by
  have ha := (tkA_b (B := B) hq).2
  have k := kE_b (B := B) ha
  have kl := kL_eq j hj
  have hl : ∀ i : Nat, tkA B L q ≤ i → i < tkA B L q + (tkE B L q - tkA B L q) → 97 ≤ B i ∧ B i ≤ 122 := fun i i1 i2 => k.2.2.2.2.1 k1 i i1 (by have := k.1; unfold tkE at i2; omega)
  have hc : ∀ i : Nat, 0 ≤ i → i < 0 + kL j → 97 ≤ kB j i ∧ kB j i ≤ 122 := fun i _ i2 => (kB_eq hj (by omega)).2
  constructor
  · intro e
    have hs : tkE B L q - tkA B L q ≤ 8 := by
      by_cases z : tkE B L q - tkA B L q ≤ 8
      · exact z
      · have e0 : tkW B L q = 0 := (kW_b ha k1).2.2.2 (by unfold tkE at z; omega)
        have := kC_pos j hj
        omega
    have e2 : wdF B (tkA B L q) (tkE B L q - tkA B L q) = wdF (kB j) 0 (kL j) := by
      have : tkW B L q = wdF B (tkA B L q) (tkE B L q - tkA B L q) := if_pos hs
      rw [← this]; exact e
    have w := wdF_inj _ _ hl hc e2
    refine ⟨w.1, fun i hi => ?_⟩
    have := w.2 i (by omega)
    rw [Nat.zero_add] at this
    exact this
  · rintro ⟨e1, e2⟩
    have : tkW B L q = wdF B (tkA B L q) (tkE B L q - tkA B L q) := if_pos (by unfold tkE at e1; omega)
    rw [this, e1]
    exact wdF_cg _ (fun i hi => by rw [Nat.zero_add]; exact e2 i hi)
theorem x_at_l (h : zHp) (B : Nat → Int) (L : Nat) (hB : xB h B L) (q : Nat) (hq : q ≤ L) (T : xTk B L q h) (j : Nat) (hj : j < zSTx.length) (k1 : tkK B L q = 1) (hn : tkE B L q - tkA B L q = kL j) : ∀ (r i : Nat), i + r = kL j → (∀ m : Nat, m < i → B (tkA B L q + m) = kB j m) → zRW mX9_at 4 (0, 0) 28 [zA 2, zT j, zI i] [] 143 h (zqi (fun v h' => (if tkK B L q = 1 ∧ tkW B L q = kC j then 1 else 0) = v ∧ h = h')) := by
  intro r
  induction r using Nat.strongRecOn with
  | ind r ih =>
    intro i hk hm
    have kb := tk_b (B := B) hq
    have hL := hB.2.1
    have h22 : j < 22 := hj
    have kl := kL_eq j h22
    refine z_il2 eX9_at_28 ?_
    refine z_aldT eX9_at_29 rfl ?_
    refine zc_Ti0 eX9_at_30 lX9_57 tJ0_length_8abf5 (hj) (by decide) (Nat.le_of_ble_eq_true rfl) (j_length _ j hj) ?_
    rintro _ _ ⟨rfl, rfl⟩ -
    refine z_cge eX9_at_33 rfl (fun c33 => ?_) (fun c33 => ?_)
    · refine z_ki eX9_at_63 ?_
      refine ze_z eX9_at_64 rfl (by first | exact Or.inl rfl | exact Or.inr rfl) ?_
      refine ⟨if_pos ⟨k1, (at_iff hq h22 k1).2 ⟨hn, fun m hm2 => hm m (by omega)⟩⟩, rfl⟩
    · refine z_al0 eX9_at_36 ?_
      refine z_ga eX9_at_37 fX9_9 zs2 (t := 3) rfl ?_
      refine z_al0 eX9_at_40 ?_
      refine z_gi eX9_at_41 fX9_31 zs2 ?_
      refine z_il2 eX9_at_44 ?_
      refine z_iaddN eX9_at_45 (by rw [T.2.1]; omega) (by rw [T.2.1]; omega) ?_
      refine zr_bN eX9_at_46 zs3 (j := tkA B L q + i) (by rw [T.2.1]; omega) (by omega) ?_
      rw [(hB.2.2 (tkA B L q + i) (by omega)).1]
      refine z_aldT eX9_at_47 rfl ?_
      refine z_il2 eX9_at_48 ?_
      refine zc_Ti1 eX9_at_49 lX9_62 tJ0_charAt_5068e (hj) (by decide) (Nat.le_of_ble_eq_true rfl) (j_charAt _ j i hj (by omega)) ?_
      rintro _ _ ⟨rfl, rfl⟩ -
      refine z_ceq eX9_at_52 rfl (fun c52 => ?_) (fun c52 => ?_)
      · refine z_incN2 eX9_at_57 zn3 (by omega) (by omega) ?_
        refine z_goto eX9_at_60 rfl ?_
        exact ih (r - 1) (by omega) (i + 1) (by omega) (fun m hm2 => by
          by_cases z : m = i
          · rw [z]; exact c52
          · exact hm m (by omega))
      · refine z_ki eX9_at_55 ?_
        refine ze_z eX9_at_56 rfl (by first | exact Or.inl rfl | exact Or.inr rfl) ?_
        refine ⟨if_neg (fun z => c52 (((at_iff hq h22 k1).1 z.2).2 i (by omega))), rfl⟩
theorem x_at (h : zHp) (B : Nat → Int) (L : Nat) (hB : xB h B L) (q : Nat) (hq : q ≤ L) (T : xTk B L q h) (j : Nat) (hj : j < zSTx.length) : zCi mX9_at 4 [zA 2, zT j] h (fun v h' => (if tkK B L q = 1 ∧ tkW B L q = kC j then 1 else 0) = v ∧ h = h') := by
  refine z_enter [zA 2, zT j, zU] (by decide +kernel) (Nat.le_of_ble_eq_true rfl) rfl (fun hra hrg => ?_)
  have kb := tk_b (B := B) hq
  have hL := hB.2.1
  have h22 : j < 22 := hj
  have kl := kL_eq j h22
  refine z_al0 eX9_at_0 ?_
  refine z_gi eX9_at_1 fX9_41 zs2 ?_
  rw [T.1]
  refine z_ki eX9_at_4 ?_
  refine z_cne eX9_at_5 rfl (fun c5 => ?_) (fun c5 => ?_)
  · refine z_ki eX9_at_24 ?_
    refine ze_z eX9_at_25 rfl (by first | exact Or.inl rfl | exact Or.inr rfl) ?_
    refine ⟨if_neg (fun z => ?_), rfl⟩
    exact c5 z.1
  · have k1 : tkK B L q = 1 := by omega
    have e3 := T.2.2.2.2 (by omega)
    have e5 := T.2.1
    refine z_al0 eX9_at_8 ?_
    refine z_gi eX9_at_9 fX9_28 zs2 ?_
    refine z_al0 eX9_at_12 ?_
    refine z_gi eX9_at_13 fX9_31 zs2 ?_
    refine z_isubN eX9_at_16 (by omega) (by omega) ?_
    refine z_aldT eX9_at_17 rfl ?_
    refine zc_Ti0 eX9_at_18 lX9_57 tJ0_length_8abf5 (hj) (by decide) (Nat.le_of_ble_eq_true rfl) (j_length _ j hj) ?_
    rintro _ _ ⟨rfl, rfl⟩ -
    refine z_ceq eX9_at_21 rfl (fun c21 => ?_) (fun c21 => ?_)
    · refine z_ki eX9_at_26 ?_
      refine z_is2 eX9_at_27 zn3 ?_
      exact x_at_l h B L hB q hq T j hj k1 (by omega) (kL j) 0 (by omega) (fun m hm => by omega)
    · refine z_ki eX9_at_24 ?_
      refine ze_z eX9_at_25 rfl (by first | exact Or.inl rfl | exact Or.inr rfl) ?_
      refine ⟨if_neg (fun z => ?_), rfl⟩
      have := ((at_iff hq h22 k1).1 z.2).1
      omega
theorem x_atEnd (h : zHp) (B : Nat → Int) (L : Nat) (q : Nat) (T : xTk B L q h) : zCi mX9_atEnd 0 [zA 2] h (fun v h' => (if tkK B L q = 0 then 1 else 0) = v ∧ h = h') := by
  refine z_enter [zA 2] (by decide +kernel) (Nat.le_of_ble_eq_true rfl) rfl (fun hra hrg => ?_)
  have t4 := T.1
  refine z_al0 eX9_atEnd_0 ?_
  refine z_gi eX9_atEnd_1 fX9_41 zs2 ?_
  refine z_ine eX9_atEnd_4 rfl (fun c4 => ?_) (fun c4 => ?_)
  · refine z_ki eX9_atEnd_11 ?_
    refine ze_z eX9_atEnd_12 rfl (by first | exact Or.inl rfl | exact Or.inr rfl) ?_
    refine ⟨?_, rfl⟩
    first | (rw [if_pos (by omega)]; done) | (rw [if_neg (by omega)]; done)
  · refine z_ki eX9_atEnd_7 ?_
    refine z_goto eX9_atEnd_8 rfl ?_
    refine ze_z eX9_atEnd_12 rfl (by first | exact Or.inl rfl | exact Or.inr rfl) ?_
    refine ⟨?_, rfl⟩
    first | (rw [if_pos (by omega)]; done) | (rw [if_neg (by omega)]; done)
theorem x_atSign (h : zHp) (B : Nat → Int) (L : Nat) (q : Nat) (T : xTk B L q h) : zCi mX9_atSign 0 [zA 2] h (fun v h' => (if tkK B L q = 3 then 1 else 0) = v ∧ h = h') := by
  refine z_enter [zA 2] (by decide +kernel) (Nat.le_of_ble_eq_true rfl) rfl (fun hra hrg => ?_)
  have t4 := T.1
  refine z_al0 eX9_atSign_0 ?_
  refine z_gi eX9_atSign_1 fX9_41 zs2 ?_
  refine z_ki eX9_atSign_4 ?_
  refine z_cne eX9_atSign_5 rfl (fun c5 => ?_) (fun c5 => ?_)
  · refine z_ki eX9_atSign_12 ?_
    refine ze_z eX9_atSign_13 rfl (by first | exact Or.inl rfl | exact Or.inr rfl) ?_
    refine ⟨?_, rfl⟩
    first | (rw [if_pos (by omega)]; done) | (rw [if_neg (by omega)]; done)
  · refine z_ki eX9_atSign_8 ?_
    refine z_goto eX9_atSign_9 rfl ?_
    refine ze_z eX9_atSign_13 rfl (by first | exact Or.inl rfl | exact Or.inr rfl) ?_
    refine ⟨?_, rfl⟩
    first | (rw [if_pos (by omega)]; done) | (rw [if_neg (by omega)]; done)
theorem x_atNumber (h : zHp) (B : Nat → Int) (L : Nat) (q : Nat) (T : xTk B L q h) : zCi mX9_atNumber 0 [zA 2] h (fun v h' => (if tkK B L q = 2 then 1 else 0) = v ∧ h = h') := by
  refine z_enter [zA 2] (by decide +kernel) (Nat.le_of_ble_eq_true rfl) rfl (fun hra hrg => ?_)
  have t4 := T.1
  refine z_al0 eX9_atNumber_0 ?_
  refine z_gi eX9_atNumber_1 fX9_41 zs2 ?_
  refine z_ki eX9_atNumber_4 ?_
  refine z_cne eX9_atNumber_5 rfl (fun c5 => ?_) (fun c5 => ?_)
  · refine z_ki eX9_atNumber_12 ?_
    refine ze_z eX9_atNumber_13 rfl (by first | exact Or.inl rfl | exact Or.inr rfl) ?_
    refine ⟨?_, rfl⟩
    first | (rw [if_pos (by omega)]; done) | (rw [if_neg (by omega)]; done)
  · refine z_ki eX9_atNumber_8 ?_
    refine z_goto eX9_atNumber_9 rfl ?_
    refine ze_z eX9_atNumber_13 rfl (by first | exact Or.inl rfl | exact Or.inr rfl) ?_
    refine ⟨?_, rfl⟩
    first | (rw [if_pos (by omega)]; done) | (rw [if_neg (by omega)]; done)
theorem x_atShort (h : zHp) (B : Nat → Int) (L : Nat) (q : Nat) (T : xTk B L q h) : zCi mX9_atShortWord 0 [zA 2] h (fun v h' => (if tkK B L q = 1 ∧ ¬ tkW B L q = 0 then 1 else 0) = v ∧ h = h') := by
  refine z_enter [zA 2] (by decide +kernel) (Nat.le_of_ble_eq_true rfl) rfl (fun hra hrg => ?_)
  have t4 := T.1
  refine z_al0 eX9_atShortWord_0 ?_
  refine z_gi eX9_atShortWord_1 fX9_41 zs2 ?_
  refine z_ki eX9_atShortWord_4 ?_
  refine z_cne eX9_atShortWord_5 rfl (fun c5 => ?_) (fun c5 => ?_)
  · refine z_ki eX9_atShortWord_21 ?_
    refine ze_z eX9_atShortWord_22 rfl (by first | exact Or.inl rfl | exact Or.inr rfl) ?_
    refine ⟨?_, rfl⟩
    first | (rw [if_pos (by omega)]; done) | (rw [if_neg (by omega)]; done)
  · have e7 := T.2.2.1 (by omega)
    refine z_al0 eX9_atShortWord_8 ?_
    refine z_gj eX9_atShortWord_9 fX9_34 zs2 ?_
    refine z_kj eX9_atShortWord_12 ?_
    refine z_lcmp eX9_atShortWord_13 ?_
    refine z_ieq eX9_atShortWord_14 rfl (fun c14 => ?_) (fun c14 => ?_)
    · rw [zcmp_eq] at c14
      refine z_ki eX9_atShortWord_21 ?_
      refine ze_z eX9_atShortWord_22 rfl (by first | exact Or.inl rfl | exact Or.inr rfl) ?_
      refine ⟨?_, rfl⟩
      first | (rw [if_pos (by omega)]; done) | (rw [if_neg (by omega)]; done)
    · rw [zcmp_eq] at c14
      refine z_ki eX9_atShortWord_17 ?_
      refine z_goto eX9_atShortWord_18 rfl ?_
      refine ze_z eX9_atShortWord_22 rfl (by first | exact Or.inl rfl | exact Or.inr rfl) ?_
      refine ⟨?_, rfl⟩
      first | (rw [if_pos (by omega)]; done) | (rw [if_neg (by omega)]; done)
theorem x_refuse (h : zHp) (n : Int) : zCi mX9_refuse 0 [zA 2, zI n] h (fun v h' => (0 : Int) = v ∧ zup (zup h 2 8 (if h 2 4 = 4 then 1 else n)) 2 9 (h 2 5) = h') := by
  refine z_enter [zA 2, zI n] (by decide +kernel) (Nat.le_of_ble_eq_true rfl) rfl (fun hra hrg => ?_)
  refine z_al0 eX9_refuse_0 ?_
  refine z_al0 eX9_refuse_1 ?_
  refine z_gi eX9_refuse_2 fX9_41 zs2 ?_
  refine z_ki eX9_refuse_5 ?_
  refine z_cne eX9_refuse_6 rfl (fun c6 => ?_) (fun c6 => ?_)
  · refine z_il1 eX9_refuse_13 ?_
    refine z_pi eX9_refuse_14 pX9_15 zs2 ?_
    refine z_al0 eX9_refuse_17 ?_
    refine z_al0 eX9_refuse_18 ?_
    refine z_gi eX9_refuse_19 fX9_31 zs2 ?_
    rw [zup_ne (by decide)]
    refine z_pi eX9_refuse_22 pX9_19 zs2 ?_
    refine z_ki eX9_refuse_25 ?_
    refine ze_z eX9_refuse_26 rfl (by first | exact Or.inl rfl | exact Or.inr rfl) ?_
    refine ⟨rfl, ?_⟩
    rw [if_neg (by omega)]
  · refine z_ki eX9_refuse_9 ?_
    refine z_goto eX9_refuse_10 rfl ?_
    refine z_pi eX9_refuse_14 pX9_15 zs2 ?_
    refine z_al0 eX9_refuse_17 ?_
    refine z_al0 eX9_refuse_18 ?_
    refine z_gi eX9_refuse_19 fX9_31 zs2 ?_
    rw [zup_ne (by decide)]
    refine z_pi eX9_refuse_22 pX9_19 zs2 ?_
    refine z_ki eX9_refuse_25 ?_
    refine ze_z eX9_refuse_26 rfl (by first | exact Or.inl rfl | exact Or.inr rfl) ?_
    refine ⟨rfl, ?_⟩
    rw [if_pos (by omega)]
/-- what a fault of the kind n is, where this piece stands -/
def fK (k n : Int) : Int := if k = 4 then 1 else n
theorem fK_pos {k n : Int} (h : 0 < n) : 0 < fK k n := by unfold fK; split <;> omega
/-- a number of lo to hi stands here (0), or the fault's kind; a sign -/
def nuK (B : Nat → Int) (L q : Nat) (lo hi : Int) : Int := if tkK B L q = 2 then (if lo ≤ tkV B L q ∧ tkV B L q ≤ hi then 0 else 4) else fK (tkK B L q) 2
def sgK (B : Nat → Int) (L q : Nat) : Int := if tkK B L q = 3 then 0 else fK (tkK B L q) 2
/-- the class's tape tells this fault -/
def xBad (h : zHp) (k : Int) (a : Nat) : zHp := zup (zup h 2 8 k) 2 9 (a : Int)
theorem nuK_b {B : Nat → Int} {L q : Nat} {lo hi : Int} : 0 ≤ nuK B L q lo hi ∧ (nuK B L q lo hi = 0 ↔ tkK B L q = 2 ∧ lo ≤ tkV B L q ∧ tkV B L q ≤ hi) := by
  unfold nuK
  have := @fK_pos (tkK B L q) 2 (by omega)
  split
  · split
    · exact ⟨by omega, by omega⟩
    · exact ⟨by omega, by omega⟩
  · exact ⟨by omega, by omega⟩
theorem sgK_b {B : Nat → Int} {L q : Nat} : 0 ≤ sgK B L q ∧ (sgK B L q = 0 ↔ tkK B L q = 3) := by
  unfold sgK
  have := @fK_pos (tkK B L q) 2 (by omega)
  split
  · exact ⟨by omega, by omega⟩
  · exact ⟨by omega, by omega⟩
theorem x_ref {h : zHp} {B : Nat → Int} {L q : Nat} (T : xTk B L q h) (n : Int) : zCi mX9_refuse 0 [zA 2, zI n] h (fun v h' => (0 : Int) = v ∧ xBad h (fK (tkK B L q) n) (tkA B L q) = h') := (x_refuse h n).wkn (fun v h' z => ⟨z.1, by rw [← z.2, T.1, T.2.1]; rfl⟩)
theorem x_isNumber (h : zHp) (B : Nat → Int) (L : Nat) (q : Nat) (T : xTk B L q h) (lo hi : Int) : zCi mX9_isNumber 1 [zA 2, zI lo, zI hi] h (fun v h' => (nuK B L q lo hi = 0 → (1 : Int) = v ∧ h = h') ∧ (¬ nuK B L q lo hi = 0 → (0 : Int) = v ∧ xBad h (nuK B L q lo hi) (tkA B L q) = h')) := by
  refine z_enter [zA 2, zI lo, zI hi] (by decide +kernel) (Nat.le_of_ble_eq_true rfl) rfl (fun hra hrg => ?_)
  refine z_al0 eX9_isNumber_0 ?_
  refine zc_vi0 eX9_isNumber_1 lX9_80 tX9_atNumber zs2 (by decide) (Nat.le_of_ble_eq_true rfl) (x_atNumber _ B L q T) ?_
  rintro _ _ ⟨rfl, rfl⟩ -
  refine z_ine eX9_isNumber_4 rfl (fun c4 => ?_) (fun c4 => ?_)
  · have z4 := iteT c4
    have e6 := T.2.2.2.1 z4
    refine z_al0 eX9_isNumber_13 ?_
    refine z_gi eX9_isNumber_14 fX9_38 zs2 ?_
    refine z_il1 eX9_isNumber_17 ?_
    refine z_clt eX9_isNumber_18 rfl (fun c18 => ?_) (fun c18 => ?_)
    · refine z_al0 eX9_isNumber_29 ?_
      refine z_ki eX9_isNumber_30 ?_
      refine zc_vi1 eX9_isNumber_31 lX9_73 tX9_refuse zs2 (by decide) (Nat.le_of_ble_eq_true rfl) (x_ref T _) ?_
      rintro _ _ ⟨rfl, rfl⟩ -
      refine z_ieq eX9_isNumber_34 rfl (fun c34 => ?_) (fun c34 => ?_)
      · refine z_ki eX9_isNumber_41 ?_
        refine ze_z eX9_isNumber_42 rfl (by first | exact Or.inl rfl | exact Or.inr rfl) ?_
        have e : nuK B L q lo hi = 4 := by unfold nuK; rw [if_pos z4, if_neg (by omega)]
        have e4 : fK (tkK B L q) 4 = 4 := if_neg (by omega)
        refine ⟨fun z => by omega, fun _ => ⟨rfl, by rw [e, e4]⟩⟩
      · exact absurd rfl c34
    · refine z_al0 eX9_isNumber_21 ?_
      refine z_gi eX9_isNumber_22 fX9_38 zs2 ?_
      refine z_il2 eX9_isNumber_25 ?_
      refine z_cle eX9_isNumber_26 rfl (fun c26 => ?_) (fun c26 => ?_)
      · refine z_ki eX9_isNumber_37 ?_
        refine z_goto eX9_isNumber_38 rfl ?_
        refine ze_z eX9_isNumber_42 rfl (by first | exact Or.inl rfl | exact Or.inr rfl) ?_
        have e : nuK B L q lo hi = 0 := by unfold nuK; rw [if_pos z4, if_pos (by omega)]
        exact ⟨fun _ => ⟨rfl, rfl⟩, fun z => absurd e z⟩
      · refine z_al0 eX9_isNumber_29 ?_
        refine z_ki eX9_isNumber_30 ?_
        refine zc_vi1 eX9_isNumber_31 lX9_73 tX9_refuse zs2 (by decide) (Nat.le_of_ble_eq_true rfl) (x_ref T _) ?_
        rintro _ _ ⟨rfl, rfl⟩ -
        refine z_ieq eX9_isNumber_34 rfl (fun c34 => ?_) (fun c34 => ?_)
        · refine z_ki eX9_isNumber_41 ?_
          refine ze_z eX9_isNumber_42 rfl (by first | exact Or.inl rfl | exact Or.inr rfl) ?_
          have e : nuK B L q lo hi = 4 := by unfold nuK; rw [if_pos z4, if_neg (by omega)]
          have e4 : fK (tkK B L q) 4 = 4 := if_neg (by omega)
          refine ⟨fun z => by omega, fun _ => ⟨rfl, by rw [e, e4]⟩⟩
        · exact absurd rfl c34
  · have z4 := iteF c4
    refine z_al0 eX9_isNumber_7 ?_
    refine z_ki eX9_isNumber_8 ?_
    refine zc_vi1 eX9_isNumber_9 lX9_73 tX9_refuse zs2 (by decide) (Nat.le_of_ble_eq_true rfl) (x_ref T _) ?_
    rintro _ _ ⟨rfl, rfl⟩ -
    refine ze_z eX9_isNumber_12 rfl (by first | exact Or.inl rfl | exact Or.inr rfl) ?_
    have e : nuK B L q lo hi = fK (tkK B L q) 2 := by unfold nuK; rw [if_neg z4]
    have := @fK_pos (tkK B L q) 2 (by omega)
    refine ⟨fun z => by omega, fun _ => ⟨rfl, by rw [e]⟩⟩
theorem x_expNumber (h : zHp) (B : Nat → Int) (L : Nat) (hB : xB h B L) (q : Nat) (hq : q ≤ L) (e3 : h 2 3 = (q : Int)) (lo hi : Int) : zCi mX9_expectNumber 3 [zA 2, zI lo, zI hi] h (fun v h' => ∃ g, xFr h g ∧ xTk B L q g ∧ (nuK B L q lo hi = 0 → (1 : Int) = v ∧ g = h') ∧ (¬ nuK B L q lo hi = 0 → (0 : Int) = v ∧ xBad g (nuK B L q lo hi) (tkA B L q) = h')) := by
  refine z_enter [zA 2, zI lo, zI hi] (by decide +kernel) (Nat.le_of_ble_eq_true rfl) rfl (fun hra hrg => ?_)
  refine z_al0 eX9_expectNumber_0 ?_
  refine zc_vv0 eX9_expectNumber_1 lX9_66 tX9_advance zs2 (by decide) (Nat.le_of_ble_eq_true rfl) (x_adv _ B L hB q hq e3) ?_
  rintro g ⟨F, T⟩
  refine z_al0 eX9_expectNumber_4 ?_
  refine z_il1 eX9_expectNumber_5 ?_
  refine z_il2 eX9_expectNumber_6 ?_
  refine zc_vi2 eX9_expectNumber_7 lX9_76 tX9_isNumber zs2 (by decide) (Nat.le_of_ble_eq_true rfl) (x_isNumber _ B L q T _ _) ?_
  rintro v1 g2 ⟨p1, p2⟩ -
  have v01 : v1 = 0 ∨ v1 = 1 := by
    by_cases z : nuK B L q lo hi = 0
    · exact Or.inr (p1 z).1.symm
    · exact Or.inl (p2 z).1.symm
  refine ze_z eX9_expectNumber_10 rfl (by exact v01) ?_
  exact ⟨g, F, T, p1, p2⟩
theorem x_expSign (h : zHp) (B : Nat → Int) (L : Nat) (hB : xB h B L) (q : Nat) (hq : q ≤ L) (e3 : h 2 3 = (q : Int)) : zCi mX9_expectSign 3 [zA 2] h (fun v h' => ∃ g, xFr h g ∧ xTk B L q g ∧ (sgK B L q = 0 → (1 : Int) = v ∧ g = h') ∧ (¬ sgK B L q = 0 → (0 : Int) = v ∧ xBad g (sgK B L q) (tkA B L q) = h')) := by
  refine z_enter [zA 2] (by decide +kernel) (Nat.le_of_ble_eq_true rfl) rfl (fun hra hrg => ?_)
  refine z_al0 eX9_expectSign_0 ?_
  refine zc_vv0 eX9_expectSign_1 lX9_66 tX9_advance zs2 (by decide) (Nat.le_of_ble_eq_true rfl) (x_adv _ B L hB q hq e3) ?_
  rintro g ⟨F, T⟩
  refine z_al0 eX9_expectSign_4 ?_
  refine zc_vi0 eX9_expectSign_5 lX9_69 tX9_atSign zs2 (by decide) (Nat.le_of_ble_eq_true rfl) (x_atSign _ B L q T) ?_
  rintro _ _ ⟨rfl, rfl⟩ -
  refine z_ine eX9_expectSign_8 rfl (fun c8 => ?_) (fun c8 => ?_)
  · have z8 := iteT c8
    refine z_ki eX9_expectSign_19 ?_
    refine z_goto eX9_expectSign_20 rfl ?_
    refine ze_z eX9_expectSign_24 rfl (by first | exact Or.inl rfl | exact Or.inr rfl) ?_
    have e : sgK B L q = 0 := by unfold sgK; rw [if_pos z8]
    exact ⟨g, F, T, fun _ => ⟨rfl, rfl⟩, fun z => absurd e z⟩
  · have z8 := iteF c8
    refine z_al0 eX9_expectSign_11 ?_
    refine z_ki eX9_expectSign_12 ?_
    refine zc_vi1 eX9_expectSign_13 lX9_73 tX9_refuse zs2 (by decide) (Nat.le_of_ble_eq_true rfl) (x_ref T _) ?_
    rintro _ _ ⟨rfl, rfl⟩ -
    refine z_ieq eX9_expectSign_16 rfl (fun c16 => ?_) (fun c16 => ?_)
    · refine z_ki eX9_expectSign_23 ?_
      refine ze_z eX9_expectSign_24 rfl (by first | exact Or.inl rfl | exact Or.inr rfl) ?_
      have e : sgK B L q = fK (tkK B L q) 2 := by unfold sgK; rw [if_neg z8]
      have := @fK_pos (tkK B L q) 2 (by omega)
      exact ⟨g, F, T, fun z => by omega, fun _ => ⟨rfl, by rw [e]⟩⟩
    · exact absurd rfl c16
def spF (a b c d e f : Int) : Int :=
  let w := (a - 96) * 32 + b - 96
  let w := if 0 < c then w * 32 + c - 96 else w
  let w := if 0 < d then w * 32 + d - 96 else w
  let w := if 0 < e then w * 32 + e - 96 else w
  if 0 < f then w * 32 + f - 96 else w
theorem r_spelled (h : zHp) (a b c d e f : Int) (hr : (0 ≤ a ∧ a ≤ 200) ∧ (0 ≤ b ∧ b ≤ 200) ∧ (0 ≤ c ∧ c ≤ 200) ∧ (0 ≤ d ∧ d ≤ 200) ∧ (0 ≤ e ∧ e ≤ 200) ∧ (0 ≤ f ∧ f ≤ 200)) : zCj mX12_spelled 0 [zI a, zI b, zI c, zI d, zI e, zI f] h (fun v h' => spF a b c d e f = v ∧ h = h') := by
  refine z_enter [zI a, zI b, zI c, zI d, zI e, zI f, zU, zU] (by decide +kernel) (Nat.le_of_ble_eq_true rfl) rfl (fun hra hrg => ?_)
  refine z_il0 eX12_spelled_0 ?_
  refine z_i2l eX12_spelled_1 ?_
  refine z_kj eX12_spelled_2 ?_
  refine z_lsubN eX12_spelled_5 (by omega) (by omega) ?_
  refine z_kj eX12_spelled_6 ?_
  refine z_lmulN eX12_spelled_9 (by omega) (by omega) ?_
  refine z_il1 eX12_spelled_10 ?_
  refine z_i2l eX12_spelled_11 ?_
  refine z_laddN eX12_spelled_12 (by omega) (by omega) ?_
  refine z_kj eX12_spelled_13 ?_
  refine z_lsubN eX12_spelled_16 (by omega) (by omega) ?_
  refine z_ls6 eX12_spelled_17 zn0 ?_
  refine z_il2 eX12_spelled_19 ?_
  refine z_ile eX12_spelled_20 rfl (fun c20 => ?_) (fun c20 => ?_)
  · refine z_ll6 eX12_spelled_39 ?_
    refine z_ls6 eX12_spelled_41 zn0 ?_
    refine z_il3 eX12_spelled_43 ?_
    refine z_ile eX12_spelled_44 rfl (fun c44 => ?_) (fun c44 => ?_)
    · refine z_ll6 eX12_spelled_63 ?_
      refine z_ls6 eX12_spelled_65 zn0 ?_
      refine z_il4 eX12_spelled_67 ?_
      refine z_ile eX12_spelled_69 rfl (fun c69 => ?_) (fun c69 => ?_)
      · refine z_ll6 eX12_spelled_89 ?_
        refine z_ls6 eX12_spelled_91 zn0 ?_
        refine z_il5 eX12_spelled_93 ?_
        refine z_ile eX12_spelled_95 rfl (fun c95 => ?_) (fun c95 => ?_)
        · refine z_ll6 eX12_spelled_115 ?_
          refine ze_j eX12_spelled_117 rfl ?_
          refine ⟨?_, rfl⟩
          show (if 0 < f then (if 0 < e then (if 0 < d then (if 0 < c then _ else _) * 32 + d - 96 else _) * 32 + e - 96 else _) * 32 + f - 96 else _) = _
          simp only [if_neg (show ¬ (0 < c) by omega), if_neg (show ¬ (0 < d) by omega), if_neg (show ¬ (0 < e) by omega), if_neg (show ¬ (0 < f) by omega)]
        · refine z_ll6 eX12_spelled_98 ?_
          refine z_kj eX12_spelled_100 ?_
          refine z_lmulN eX12_spelled_103 (by omega) (by omega) ?_
          refine z_il5 eX12_spelled_104 ?_
          refine z_i2l eX12_spelled_106 ?_
          refine z_laddN eX12_spelled_107 (by omega) (by omega) ?_
          refine z_kj eX12_spelled_108 ?_
          refine z_lsubN eX12_spelled_111 (by omega) (by omega) ?_
          refine z_goto eX12_spelled_112 rfl ?_
          refine ze_j eX12_spelled_117 rfl ?_
          refine ⟨?_, rfl⟩
          show (if 0 < f then (if 0 < e then (if 0 < d then (if 0 < c then _ else _) * 32 + d - 96 else _) * 32 + e - 96 else _) * 32 + f - 96 else _) = _
          simp only [if_neg (show ¬ (0 < c) by omega), if_neg (show ¬ (0 < d) by omega), if_neg (show ¬ (0 < e) by omega), if_pos (show (0 < f) by omega)]
      · refine z_ll6 eX12_spelled_72 ?_
        refine z_kj eX12_spelled_74 ?_
        refine z_lmulN eX12_spelled_77 (by omega) (by omega) ?_
        refine z_il4 eX12_spelled_78 ?_
        refine z_i2l eX12_spelled_80 ?_
        refine z_laddN eX12_spelled_81 (by omega) (by omega) ?_
        refine z_kj eX12_spelled_82 ?_
        refine z_lsubN eX12_spelled_85 (by omega) (by omega) ?_
        refine z_goto eX12_spelled_86 rfl ?_
        refine z_ls6 eX12_spelled_91 zn0 ?_
        refine z_il5 eX12_spelled_93 ?_
        refine z_ile eX12_spelled_95 rfl (fun c95 => ?_) (fun c95 => ?_)
        · refine z_ll6 eX12_spelled_115 ?_
          refine ze_j eX12_spelled_117 rfl ?_
          refine ⟨?_, rfl⟩
          show (if 0 < f then (if 0 < e then (if 0 < d then (if 0 < c then _ else _) * 32 + d - 96 else _) * 32 + e - 96 else _) * 32 + f - 96 else _) = _
          simp only [if_neg (show ¬ (0 < c) by omega), if_neg (show ¬ (0 < d) by omega), if_pos (show (0 < e) by omega), if_neg (show ¬ (0 < f) by omega)]
        · refine z_ll6 eX12_spelled_98 ?_
          refine z_kj eX12_spelled_100 ?_
          refine z_lmulN eX12_spelled_103 (by omega) (by omega) ?_
          refine z_il5 eX12_spelled_104 ?_
          refine z_i2l eX12_spelled_106 ?_
          refine z_laddN eX12_spelled_107 (by omega) (by omega) ?_
          refine z_kj eX12_spelled_108 ?_
          refine z_lsubN eX12_spelled_111 (by omega) (by omega) ?_
          refine z_goto eX12_spelled_112 rfl ?_
          refine ze_j eX12_spelled_117 rfl ?_
          refine ⟨?_, rfl⟩
          show (if 0 < f then (if 0 < e then (if 0 < d then (if 0 < c then _ else _) * 32 + d - 96 else _) * 32 + e - 96 else _) * 32 + f - 96 else _) = _
          simp only [if_neg (show ¬ (0 < c) by omega), if_neg (show ¬ (0 < d) by omega), if_pos (show (0 < e) by omega), if_pos (show (0 < f) by omega)]
    · refine z_ll6 eX12_spelled_47 ?_
      refine z_kj eX12_spelled_49 ?_
      refine z_lmulN eX12_spelled_52 (by omega) (by omega) ?_
      refine z_il3 eX12_spelled_53 ?_
      refine z_i2l eX12_spelled_54 ?_
      refine z_laddN eX12_spelled_55 (by omega) (by omega) ?_
      refine z_kj eX12_spelled_56 ?_
      refine z_lsubN eX12_spelled_59 (by omega) (by omega) ?_
      refine z_goto eX12_spelled_60 rfl ?_
      refine z_ls6 eX12_spelled_65 zn0 ?_
      refine z_il4 eX12_spelled_67 ?_
      refine z_ile eX12_spelled_69 rfl (fun c69 => ?_) (fun c69 => ?_)
      · refine z_ll6 eX12_spelled_89 ?_
        refine z_ls6 eX12_spelled_91 zn0 ?_
        refine z_il5 eX12_spelled_93 ?_
        refine z_ile eX12_spelled_95 rfl (fun c95 => ?_) (fun c95 => ?_)
        · refine z_ll6 eX12_spelled_115 ?_
          refine ze_j eX12_spelled_117 rfl ?_
          refine ⟨?_, rfl⟩
          show (if 0 < f then (if 0 < e then (if 0 < d then (if 0 < c then _ else _) * 32 + d - 96 else _) * 32 + e - 96 else _) * 32 + f - 96 else _) = _
          simp only [if_neg (show ¬ (0 < c) by omega), if_pos (show (0 < d) by omega), if_neg (show ¬ (0 < e) by omega), if_neg (show ¬ (0 < f) by omega)]
        · refine z_ll6 eX12_spelled_98 ?_
          refine z_kj eX12_spelled_100 ?_
          refine z_lmulN eX12_spelled_103 (by omega) (by omega) ?_
          refine z_il5 eX12_spelled_104 ?_
          refine z_i2l eX12_spelled_106 ?_
          refine z_laddN eX12_spelled_107 (by omega) (by omega) ?_
          refine z_kj eX12_spelled_108 ?_
          refine z_lsubN eX12_spelled_111 (by omega) (by omega) ?_
          refine z_goto eX12_spelled_112 rfl ?_
          refine ze_j eX12_spelled_117 rfl ?_
          refine ⟨?_, rfl⟩
          show (if 0 < f then (if 0 < e then (if 0 < d then (if 0 < c then _ else _) * 32 + d - 96 else _) * 32 + e - 96 else _) * 32 + f - 96 else _) = _
          simp only [if_neg (show ¬ (0 < c) by omega), if_pos (show (0 < d) by omega), if_neg (show ¬ (0 < e) by omega), if_pos (show (0 < f) by omega)]
      · refine z_ll6 eX12_spelled_72 ?_
        refine z_kj eX12_spelled_74 ?_
        refine z_lmulN eX12_spelled_77 (by omega) (by omega) ?_
        refine z_il4 eX12_spelled_78 ?_
        refine z_i2l eX12_spelled_80 ?_
        refine z_laddN eX12_spelled_81 (by omega) (by omega) ?_
        refine z_kj eX12_spelled_82 ?_
        refine z_lsubN eX12_spelled_85 (by omega) (by omega) ?_
        refine z_goto eX12_spelled_86 rfl ?_
        refine z_ls6 eX12_spelled_91 zn0 ?_
        refine z_il5 eX12_spelled_93 ?_
        refine z_ile eX12_spelled_95 rfl (fun c95 => ?_) (fun c95 => ?_)
        · refine z_ll6 eX12_spelled_115 ?_
          refine ze_j eX12_spelled_117 rfl ?_
          refine ⟨?_, rfl⟩
          show (if 0 < f then (if 0 < e then (if 0 < d then (if 0 < c then _ else _) * 32 + d - 96 else _) * 32 + e - 96 else _) * 32 + f - 96 else _) = _
          simp only [if_neg (show ¬ (0 < c) by omega), if_pos (show (0 < d) by omega), if_pos (show (0 < e) by omega), if_neg (show ¬ (0 < f) by omega)]
        · refine z_ll6 eX12_spelled_98 ?_
          refine z_kj eX12_spelled_100 ?_
          refine z_lmulN eX12_spelled_103 (by omega) (by omega) ?_
          refine z_il5 eX12_spelled_104 ?_
          refine z_i2l eX12_spelled_106 ?_
          refine z_laddN eX12_spelled_107 (by omega) (by omega) ?_
          refine z_kj eX12_spelled_108 ?_
          refine z_lsubN eX12_spelled_111 (by omega) (by omega) ?_
          refine z_goto eX12_spelled_112 rfl ?_
          refine ze_j eX12_spelled_117 rfl ?_
          refine ⟨?_, rfl⟩
          show (if 0 < f then (if 0 < e then (if 0 < d then (if 0 < c then _ else _) * 32 + d - 96 else _) * 32 + e - 96 else _) * 32 + f - 96 else _) = _
          simp only [if_neg (show ¬ (0 < c) by omega), if_pos (show (0 < d) by omega), if_pos (show (0 < e) by omega), if_pos (show (0 < f) by omega)]
  · refine z_ll6 eX12_spelled_23 ?_
    refine z_kj eX12_spelled_25 ?_
    refine z_lmulN eX12_spelled_28 (by omega) (by omega) ?_
    refine z_il2 eX12_spelled_29 ?_
    refine z_i2l eX12_spelled_30 ?_
    refine z_laddN eX12_spelled_31 (by omega) (by omega) ?_
    refine z_kj eX12_spelled_32 ?_
    refine z_lsubN eX12_spelled_35 (by omega) (by omega) ?_
    refine z_goto eX12_spelled_36 rfl ?_
    refine z_ls6 eX12_spelled_41 zn0 ?_
    refine z_il3 eX12_spelled_43 ?_
    refine z_ile eX12_spelled_44 rfl (fun c44 => ?_) (fun c44 => ?_)
    · refine z_ll6 eX12_spelled_63 ?_
      refine z_ls6 eX12_spelled_65 zn0 ?_
      refine z_il4 eX12_spelled_67 ?_
      refine z_ile eX12_spelled_69 rfl (fun c69 => ?_) (fun c69 => ?_)
      · refine z_ll6 eX12_spelled_89 ?_
        refine z_ls6 eX12_spelled_91 zn0 ?_
        refine z_il5 eX12_spelled_93 ?_
        refine z_ile eX12_spelled_95 rfl (fun c95 => ?_) (fun c95 => ?_)
        · refine z_ll6 eX12_spelled_115 ?_
          refine ze_j eX12_spelled_117 rfl ?_
          refine ⟨?_, rfl⟩
          show (if 0 < f then (if 0 < e then (if 0 < d then (if 0 < c then _ else _) * 32 + d - 96 else _) * 32 + e - 96 else _) * 32 + f - 96 else _) = _
          simp only [if_pos (show (0 < c) by omega), if_neg (show ¬ (0 < d) by omega), if_neg (show ¬ (0 < e) by omega), if_neg (show ¬ (0 < f) by omega)]
        · refine z_ll6 eX12_spelled_98 ?_
          refine z_kj eX12_spelled_100 ?_
          refine z_lmulN eX12_spelled_103 (by omega) (by omega) ?_
          refine z_il5 eX12_spelled_104 ?_
          refine z_i2l eX12_spelled_106 ?_
          refine z_laddN eX12_spelled_107 (by omega) (by omega) ?_
          refine z_kj eX12_spelled_108 ?_
          refine z_lsubN eX12_spelled_111 (by omega) (by omega) ?_
          refine z_goto eX12_spelled_112 rfl ?_
          refine ze_j eX12_spelled_117 rfl ?_
          refine ⟨?_, rfl⟩
          show (if 0 < f then (if 0 < e then (if 0 < d then (if 0 < c then _ else _) * 32 + d - 96 else _) * 32 + e - 96 else _) * 32 + f - 96 else _) = _
          simp only [if_pos (show (0 < c) by omega), if_neg (show ¬ (0 < d) by omega), if_neg (show ¬ (0 < e) by omega), if_pos (show (0 < f) by omega)]
      · refine z_ll6 eX12_spelled_72 ?_
        refine z_kj eX12_spelled_74 ?_
        refine z_lmulN eX12_spelled_77 (by omega) (by omega) ?_
        refine z_il4 eX12_spelled_78 ?_
        refine z_i2l eX12_spelled_80 ?_
        refine z_laddN eX12_spelled_81 (by omega) (by omega) ?_
        refine z_kj eX12_spelled_82 ?_
        refine z_lsubN eX12_spelled_85 (by omega) (by omega) ?_
        refine z_goto eX12_spelled_86 rfl ?_
        refine z_ls6 eX12_spelled_91 zn0 ?_
        refine z_il5 eX12_spelled_93 ?_
        refine z_ile eX12_spelled_95 rfl (fun c95 => ?_) (fun c95 => ?_)
        · refine z_ll6 eX12_spelled_115 ?_
          refine ze_j eX12_spelled_117 rfl ?_
          refine ⟨?_, rfl⟩
          show (if 0 < f then (if 0 < e then (if 0 < d then (if 0 < c then _ else _) * 32 + d - 96 else _) * 32 + e - 96 else _) * 32 + f - 96 else _) = _
          simp only [if_pos (show (0 < c) by omega), if_neg (show ¬ (0 < d) by omega), if_pos (show (0 < e) by omega), if_neg (show ¬ (0 < f) by omega)]
        · refine z_ll6 eX12_spelled_98 ?_
          refine z_kj eX12_spelled_100 ?_
          refine z_lmulN eX12_spelled_103 (by omega) (by omega) ?_
          refine z_il5 eX12_spelled_104 ?_
          refine z_i2l eX12_spelled_106 ?_
          refine z_laddN eX12_spelled_107 (by omega) (by omega) ?_
          refine z_kj eX12_spelled_108 ?_
          refine z_lsubN eX12_spelled_111 (by omega) (by omega) ?_
          refine z_goto eX12_spelled_112 rfl ?_
          refine ze_j eX12_spelled_117 rfl ?_
          refine ⟨?_, rfl⟩
          show (if 0 < f then (if 0 < e then (if 0 < d then (if 0 < c then _ else _) * 32 + d - 96 else _) * 32 + e - 96 else _) * 32 + f - 96 else _) = _
          simp only [if_pos (show (0 < c) by omega), if_neg (show ¬ (0 < d) by omega), if_pos (show (0 < e) by omega), if_pos (show (0 < f) by omega)]
    · refine z_ll6 eX12_spelled_47 ?_
      refine z_kj eX12_spelled_49 ?_
      refine z_lmulN eX12_spelled_52 (by omega) (by omega) ?_
      refine z_il3 eX12_spelled_53 ?_
      refine z_i2l eX12_spelled_54 ?_
      refine z_laddN eX12_spelled_55 (by omega) (by omega) ?_
      refine z_kj eX12_spelled_56 ?_
      refine z_lsubN eX12_spelled_59 (by omega) (by omega) ?_
      refine z_goto eX12_spelled_60 rfl ?_
      refine z_ls6 eX12_spelled_65 zn0 ?_
      refine z_il4 eX12_spelled_67 ?_
      refine z_ile eX12_spelled_69 rfl (fun c69 => ?_) (fun c69 => ?_)
      · refine z_ll6 eX12_spelled_89 ?_
        refine z_ls6 eX12_spelled_91 zn0 ?_
        refine z_il5 eX12_spelled_93 ?_
        refine z_ile eX12_spelled_95 rfl (fun c95 => ?_) (fun c95 => ?_)
        · refine z_ll6 eX12_spelled_115 ?_
          refine ze_j eX12_spelled_117 rfl ?_
          refine ⟨?_, rfl⟩
          show (if 0 < f then (if 0 < e then (if 0 < d then (if 0 < c then _ else _) * 32 + d - 96 else _) * 32 + e - 96 else _) * 32 + f - 96 else _) = _
          simp only [if_pos (show (0 < c) by omega), if_pos (show (0 < d) by omega), if_neg (show ¬ (0 < e) by omega), if_neg (show ¬ (0 < f) by omega)]
        · refine z_ll6 eX12_spelled_98 ?_
          refine z_kj eX12_spelled_100 ?_
          refine z_lmulN eX12_spelled_103 (by omega) (by omega) ?_
          refine z_il5 eX12_spelled_104 ?_
          refine z_i2l eX12_spelled_106 ?_
          refine z_laddN eX12_spelled_107 (by omega) (by omega) ?_
          refine z_kj eX12_spelled_108 ?_
          refine z_lsubN eX12_spelled_111 (by omega) (by omega) ?_
          refine z_goto eX12_spelled_112 rfl ?_
          refine ze_j eX12_spelled_117 rfl ?_
          refine ⟨?_, rfl⟩
          show (if 0 < f then (if 0 < e then (if 0 < d then (if 0 < c then _ else _) * 32 + d - 96 else _) * 32 + e - 96 else _) * 32 + f - 96 else _) = _
          simp only [if_pos (show (0 < c) by omega), if_pos (show (0 < d) by omega), if_neg (show ¬ (0 < e) by omega), if_pos (show (0 < f) by omega)]
      · refine z_ll6 eX12_spelled_72 ?_
        refine z_kj eX12_spelled_74 ?_
        refine z_lmulN eX12_spelled_77 (by omega) (by omega) ?_
        refine z_il4 eX12_spelled_78 ?_
        refine z_i2l eX12_spelled_80 ?_
        refine z_laddN eX12_spelled_81 (by omega) (by omega) ?_
        refine z_kj eX12_spelled_82 ?_
        refine z_lsubN eX12_spelled_85 (by omega) (by omega) ?_
        refine z_goto eX12_spelled_86 rfl ?_
        refine z_ls6 eX12_spelled_91 zn0 ?_
        refine z_il5 eX12_spelled_93 ?_
        refine z_ile eX12_spelled_95 rfl (fun c95 => ?_) (fun c95 => ?_)
        · refine z_ll6 eX12_spelled_115 ?_
          refine ze_j eX12_spelled_117 rfl ?_
          refine ⟨?_, rfl⟩
          show (if 0 < f then (if 0 < e then (if 0 < d then (if 0 < c then _ else _) * 32 + d - 96 else _) * 32 + e - 96 else _) * 32 + f - 96 else _) = _
          simp only [if_pos (show (0 < c) by omega), if_pos (show (0 < d) by omega), if_pos (show (0 < e) by omega), if_neg (show ¬ (0 < f) by omega)]
        · refine z_ll6 eX12_spelled_98 ?_
          refine z_kj eX12_spelled_100 ?_
          refine z_lmulN eX12_spelled_103 (by omega) (by omega) ?_
          refine z_il5 eX12_spelled_104 ?_
          refine z_i2l eX12_spelled_106 ?_
          refine z_laddN eX12_spelled_107 (by omega) (by omega) ?_
          refine z_kj eX12_spelled_108 ?_
          refine z_lsubN eX12_spelled_111 (by omega) (by omega) ?_
          refine z_goto eX12_spelled_112 rfl ?_
          refine ze_j eX12_spelled_117 rfl ?_
          refine ⟨?_, rfl⟩
          show (if 0 < f then (if 0 < e then (if 0 < d then (if 0 < c then _ else _) * 32 + d - 96 else _) * 32 + e - 96 else _) * 32 + f - 96 else _) = _
          simp only [if_pos (show (0 < c) by omega), if_pos (show (0 < d) by omega), if_pos (show (0 < e) by omega), if_pos (show (0 < f) by omega)]
theorem r_isWord (h : zHp) (B : Nat → Int) (L : Nat) (q : Nat) (hq : q ≤ L) (T : mTk B L q h) (w : Int) (hw : 0 < w) : zCi mX12_isWord 0 [zA 117, zJ w] h (fun v h' => (if tkK B L q = 1 ∧ tkW B L q = w then 1 else 0) = v ∧ h = h') := by
  refine z_enter [zA 117, zJ w, zU] (by decide +kernel) (Nat.le_of_ble_eq_true rfl) rfl (fun hra hrg => ?_)
  have t14 := T.1
  refine z_al0 eX12_isWord_0 ?_
  refine z_gi eX12_isWord_1 fX12_149 zs117 ?_
  refine z_ki eX12_isWord_4 ?_
  refine z_cne eX12_isWord_5 rfl (fun c5 => ?_) (fun c5 => ?_)
  · refine z_ki eX12_isWord_21 ?_
    refine ze_z eX12_isWord_22 rfl (by first | exact Or.inl rfl | exact Or.inr rfl) ?_
    refine ⟨?_, rfl⟩
    first | (rw [if_pos (by omega)]; done) | (rw [if_neg (by omega)]; done)
  · have e7 : h 117 19 = w ↔ tkW B L q = w := by
      have e7 := T.2.2.1 (by omega)
      by_cases z0 : tkW B L q = 0
      · have := (e7.1 z0).1; omega
      · have := (e7.2 z0).1; omega
    refine z_al0 eX12_isWord_8 ?_
    refine z_gj eX12_isWord_9 fX12_155 zs117 ?_
    refine z_ll1 eX12_isWord_12 ?_
    refine z_lcmp eX12_isWord_13 ?_
    refine z_ine eX12_isWord_14 rfl (fun c14 => ?_) (fun c14 => ?_)
    · rw [zcmp_ne] at c14
      refine z_ki eX12_isWord_21 ?_
      refine ze_z eX12_isWord_22 rfl (by first | exact Or.inl rfl | exact Or.inr rfl) ?_
      refine ⟨?_, rfl⟩
      first | (rw [if_pos (by omega)]; done) | (rw [if_neg (by omega)]; done)
    · rw [zcmp_ne] at c14
      refine z_ki eX12_isWord_17 ?_
      refine z_goto eX12_isWord_18 rfl ?_
      refine ze_z eX12_isWord_22 rfl (by first | exact Or.inl rfl | exact Or.inr rfl) ?_
      refine ⟨?_, rfl⟩
      first | (rw [if_pos (by omega)]; done) | (rw [if_neg (by omega)]; done)
theorem sp_name : spF 110 97 109 101 0 0 = kC 0 := by decide +kernel
theorem sp_off : spF 111 102 102 0 0 0 = kC 1 := by decide +kernel
theorem sp_cost : spF 99 111 115 116 0 0 = kC 2 := by decide +kernel
theorem sp_sort : spF 115 111 114 116 0 0 = kC 3 := by decide +kernel
theorem sp_out : spF 111 117 116 0 0 0 = kC 4 := by decide +kernel
theorem sp_order : spF 111 114 100 101 114 0 = kC 5 := by decide +kernel
theorem sp_ties : spF 116 105 101 115 0 0 = kC 6 := by decide +kernel
theorem sp_first : spF 102 105 114 115 116 0 = kC 7 := by decide +kernel
theorem sp_points : spF 112 111 105 110 116 115 = kC 8 := by decide +kernel
theorem sp_runs : spF 114 117 110 115 0 0 = kC 9 := by decide +kernel
theorem sp_pairs : spF 112 97 105 114 115 0 = kC 10 := by decide +kernel
theorem sp_near : spF 110 101 97 114 0 0 = kC 11 := by decide +kernel
theorem sp_bar : spF 98 97 114 0 0 0 = kC 12 := by decide +kernel
theorem sp_end : spF 101 110 100 0 0 0 = kC 13 := by decide +kernel
theorem sp_up : spF 117 112 0 0 0 0 = kC 14 := by decide +kernel
theorem sp_down : spF 100 111 119 110 0 0 = kC 15 := by decide +kernel
theorem sp_in : spF 105 110 0 0 0 0 = kC 16 := by decide +kernel
theorem sp_spend : spF 115 112 101 110 100 0 = kC 17 := by decide +kernel
theorem sp_loop : spF 108 111 111 112 0 0 = kC 18 := by decide +kernel
theorem sp_when : spF 119 104 101 110 0 0 = kC 19 := by decide +kernel
theorem sp_until : spF 117 110 116 105 108 0 = kC 20 := by decide +kernel
theorem sp_not : spF 110 111 116 0 0 0 = kC 21 := by decide +kernel
theorem r_kwName (h : zHp) (B : Nat → Int) (L : Nat) (q : Nat) (hq : q ≤ L) (T : mTk B L q h) : zCi mX12_isNameWord 1 [zA 117] h (fun v h' => (if tkK B L q = 1 ∧ tkW B L q = kC 0 then 1 else 0) = v ∧ h = h') := by
  refine z_enter [zA 117] (by decide +kernel) (Nat.le_of_ble_eq_true rfl) rfl (fun hra hrg => ?_)
  refine z_al0 eX12_isNameWord_0 ?_
  refine z_ki eX12_isNameWord_1 ?_
  refine z_ki eX12_isNameWord_3 ?_
  refine z_ki eX12_isNameWord_5 ?_
  refine z_ki eX12_isNameWord_7 ?_
  refine z_ki eX12_isNameWord_9 ?_
  refine z_ki eX12_isNameWord_10 ?_
  refine zc_sj6 eX12_isNameWord_11 lX12_171 tX12_spelled (by decide) (Nat.le_of_ble_eq_true rfl) (r_spelled _ 110 97 109 101 0 0 (by decide)) ?_
  rintro _ _ ⟨rfl, rfl⟩ -
  rw [sp_name]
  refine zc_vi1 eX12_isNameWord_14 lX12_175 tX12_isWord zs117 (by decide) (Nat.le_of_ble_eq_true rfl) (r_isWord _ B L q hq T _ (kC_pos 0 (by decide))) ?_
  rintro _ _ ⟨rfl, rfl⟩ -
  refine ze_z eX12_isNameWord_17 rfl (by first | (split; exact Or.inr rfl; exact Or.inl rfl) | exact Or.inl rfl | exact Or.inr rfl) ?_
  exact ⟨rfl, rfl⟩
theorem r_kwOff (h : zHp) (B : Nat → Int) (L : Nat) (q : Nat) (hq : q ≤ L) (T : mTk B L q h) : zCi mX12_isOffWord 1 [zA 117] h (fun v h' => (if tkK B L q = 1 ∧ tkW B L q = kC 1 then 1 else 0) = v ∧ h = h') := by
  refine z_enter [zA 117] (by decide +kernel) (Nat.le_of_ble_eq_true rfl) rfl (fun hra hrg => ?_)
  refine z_al0 eX12_isOffWord_0 ?_
  refine z_ki eX12_isOffWord_1 ?_
  refine z_ki eX12_isOffWord_3 ?_
  refine z_ki eX12_isOffWord_5 ?_
  refine z_ki eX12_isOffWord_7 ?_
  refine z_ki eX12_isOffWord_8 ?_
  refine z_ki eX12_isOffWord_9 ?_
  refine zc_sj6 eX12_isOffWord_10 lX12_171 tX12_spelled (by decide) (Nat.le_of_ble_eq_true rfl) (r_spelled _ 111 102 102 0 0 0 (by decide)) ?_
  rintro _ _ ⟨rfl, rfl⟩ -
  refine zc_vi1 eX12_isOffWord_13 lX12_175 tX12_isWord zs117 (by decide) (Nat.le_of_ble_eq_true rfl) (r_isWord _ B L q hq T _ (kC_pos 1 (by decide))) ?_
  rintro _ _ ⟨rfl, rfl⟩ -
  refine ze_z eX12_isOffWord_16 rfl (by omega) ?_
  exact ⟨rfl, rfl⟩
theorem r_kwCost (h : zHp) (B : Nat → Int) (L : Nat) (q : Nat) (hq : q ≤ L) (T : mTk B L q h) : zCi mX12_isCostWord 1 [zA 117] h (fun v h' => (if tkK B L q = 1 ∧ tkW B L q = kC 2 then 1 else 0) = v ∧ h = h') := by
  refine z_enter [zA 117] (by decide +kernel) (Nat.le_of_ble_eq_true rfl) rfl (fun hra hrg => ?_)
  refine z_al0 eX12_isCostWord_0 ?_
  refine z_ki eX12_isCostWord_1 ?_
  refine z_ki eX12_isCostWord_3 ?_
  refine z_ki eX12_isCostWord_5 ?_
  refine z_ki eX12_isCostWord_7 ?_
  refine z_ki eX12_isCostWord_9 ?_
  refine z_ki eX12_isCostWord_10 ?_
  refine zc_sj6 eX12_isCostWord_11 lX12_171 tX12_spelled (by decide) (Nat.le_of_ble_eq_true rfl) (r_spelled _ 99 111 115 116 0 0 (by decide)) ?_
  rintro _ _ ⟨rfl, rfl⟩ -
  rw [sp_cost]
  refine zc_vi1 eX12_isCostWord_14 lX12_175 tX12_isWord zs117 (by decide) (Nat.le_of_ble_eq_true rfl) (r_isWord _ B L q hq T _ (kC_pos 2 (by decide))) ?_
  rintro _ _ ⟨rfl, rfl⟩ -
  refine ze_z eX12_isCostWord_17 rfl (by first | (split; exact Or.inr rfl; exact Or.inl rfl) | exact Or.inl rfl | exact Or.inr rfl) ?_
  exact ⟨rfl, rfl⟩
theorem r_kwSort (h : zHp) (B : Nat → Int) (L : Nat) (q : Nat) (hq : q ≤ L) (T : mTk B L q h) : zCi mX12_isSortWord 1 [zA 117] h (fun v h' => (if tkK B L q = 1 ∧ tkW B L q = kC 3 then 1 else 0) = v ∧ h = h') := by
  refine z_enter [zA 117] (by decide +kernel) (Nat.le_of_ble_eq_true rfl) rfl (fun hra hrg => ?_)
  refine z_al0 eX12_isSortWord_0 ?_
  refine z_ki eX12_isSortWord_1 ?_
  refine z_ki eX12_isSortWord_3 ?_
  refine z_ki eX12_isSortWord_5 ?_
  refine z_ki eX12_isSortWord_7 ?_
  refine z_ki eX12_isSortWord_9 ?_
  refine z_ki eX12_isSortWord_10 ?_
  refine zc_sj6 eX12_isSortWord_11 lX12_171 tX12_spelled (by decide) (Nat.le_of_ble_eq_true rfl) (r_spelled _ 115 111 114 116 0 0 (by decide)) ?_
  rintro _ _ ⟨rfl, rfl⟩ -
  rw [sp_sort]
  refine zc_vi1 eX12_isSortWord_14 lX12_175 tX12_isWord zs117 (by decide) (Nat.le_of_ble_eq_true rfl) (r_isWord _ B L q hq T _ (kC_pos 3 (by decide))) ?_
  rintro _ _ ⟨rfl, rfl⟩ -
  refine ze_z eX12_isSortWord_17 rfl (by first | (split; exact Or.inr rfl; exact Or.inl rfl) | exact Or.inl rfl | exact Or.inr rfl) ?_
  exact ⟨rfl, rfl⟩
theorem r_kwOut (h : zHp) (B : Nat → Int) (L : Nat) (q : Nat) (hq : q ≤ L) (T : mTk B L q h) : zCi mX12_isOutWord 1 [zA 117] h (fun v h' => (if tkK B L q = 1 ∧ tkW B L q = kC 4 then 1 else 0) = v ∧ h = h') := by
  refine z_enter [zA 117] (by decide +kernel) (Nat.le_of_ble_eq_true rfl) rfl (fun hra hrg => ?_)
  refine z_al0 eX12_isOutWord_0 ?_
  refine z_ki eX12_isOutWord_1 ?_
  refine z_ki eX12_isOutWord_3 ?_
  refine z_ki eX12_isOutWord_5 ?_
  refine z_ki eX12_isOutWord_7 ?_
  refine z_ki eX12_isOutWord_8 ?_
  refine z_ki eX12_isOutWord_9 ?_
  refine zc_sj6 eX12_isOutWord_10 lX12_171 tX12_spelled (by decide) (Nat.le_of_ble_eq_true rfl) (r_spelled _ 111 117 116 0 0 0 (by decide)) ?_
  rintro _ _ ⟨rfl, rfl⟩ -
  refine zc_vi1 eX12_isOutWord_13 lX12_175 tX12_isWord zs117 (by decide) (Nat.le_of_ble_eq_true rfl) (r_isWord _ B L q hq T _ (kC_pos 4 (by decide))) ?_
  rintro _ _ ⟨rfl, rfl⟩ -
  refine ze_z eX12_isOutWord_16 rfl (by omega) ?_
  exact ⟨rfl, rfl⟩
theorem r_kwOrder (h : zHp) (B : Nat → Int) (L : Nat) (q : Nat) (hq : q ≤ L) (T : mTk B L q h) : zCi mX12_isOrderWord 1 [zA 117] h (fun v h' => (if tkK B L q = 1 ∧ tkW B L q = kC 5 then 1 else 0) = v ∧ h = h') := by
  refine z_enter [zA 117] (by decide +kernel) (Nat.le_of_ble_eq_true rfl) rfl (fun hra hrg => ?_)
  refine z_al0 eX12_isOrderWord_0 ?_
  refine z_ki eX12_isOrderWord_1 ?_
  refine z_ki eX12_isOrderWord_3 ?_
  refine z_ki eX12_isOrderWord_5 ?_
  refine z_ki eX12_isOrderWord_7 ?_
  refine z_ki eX12_isOrderWord_9 ?_
  refine z_ki eX12_isOrderWord_11 ?_
  refine zc_sj6 eX12_isOrderWord_12 lX12_171 tX12_spelled (by decide) (Nat.le_of_ble_eq_true rfl) (r_spelled _ 111 114 100 101 114 0 (by decide)) ?_
  rintro _ _ ⟨rfl, rfl⟩ -
  refine zc_vi1 eX12_isOrderWord_15 lX12_175 tX12_isWord zs117 (by decide) (Nat.le_of_ble_eq_true rfl) (r_isWord _ B L q hq T _ (kC_pos 5 (by decide))) ?_
  rintro _ _ ⟨rfl, rfl⟩ -
  refine ze_z eX12_isOrderWord_18 rfl (by omega) ?_
  exact ⟨rfl, rfl⟩
theorem r_kwTies (h : zHp) (B : Nat → Int) (L : Nat) (q : Nat) (hq : q ≤ L) (T : mTk B L q h) : zCi mX12_isTiesWord 1 [zA 117] h (fun v h' => (if tkK B L q = 1 ∧ tkW B L q = kC 6 then 1 else 0) = v ∧ h = h') := by
  refine z_enter [zA 117] (by decide +kernel) (Nat.le_of_ble_eq_true rfl) rfl (fun hra hrg => ?_)
  refine z_al0 eX12_isTiesWord_0 ?_
  refine z_ki eX12_isTiesWord_1 ?_
  refine z_ki eX12_isTiesWord_3 ?_
  refine z_ki eX12_isTiesWord_5 ?_
  refine z_ki eX12_isTiesWord_7 ?_
  refine z_ki eX12_isTiesWord_9 ?_
  refine z_ki eX12_isTiesWord_10 ?_
  refine zc_sj6 eX12_isTiesWord_11 lX12_171 tX12_spelled (by decide) (Nat.le_of_ble_eq_true rfl) (r_spelled _ 116 105 101 115 0 0 (by decide)) ?_
  rintro _ _ ⟨rfl, rfl⟩ -
  rw [sp_ties]
  refine zc_vi1 eX12_isTiesWord_14 lX12_175 tX12_isWord zs117 (by decide) (Nat.le_of_ble_eq_true rfl) (r_isWord _ B L q hq T _ (kC_pos 6 (by decide))) ?_
  rintro _ _ ⟨rfl, rfl⟩ -
  refine ze_z eX12_isTiesWord_17 rfl (by first | (split; exact Or.inr rfl; exact Or.inl rfl) | exact Or.inl rfl | exact Or.inr rfl) ?_
  exact ⟨rfl, rfl⟩
/-- a word of 1 to 8 letters that is no key of a hall -/
def nmQ (B : Nat → Int) (L q : Nat) : Prop := tkK B L q = 1 ∧ ¬ tkW B L q = 0 ∧ ¬ tkW B L q = kC 0 ∧ ¬ tkW B L q = kC 1 ∧ ¬ tkW B L q = kC 2 ∧ ¬ tkW B L q = kC 3 ∧ ¬ tkW B L q = kC 4 ∧ ¬ tkW B L q = kC 5 ∧ ¬ tkW B L q = kC 6
noncomputable def b01 (P : Prop) : Int := @ite _ P (Classical.propDecidable _) 1 0
theorem b01_t {P : Prop} (h : P) : b01 P = 1 := by unfold b01; rw [if_pos h]
theorem b01_f {P : Prop} (h : ¬ P) : b01 P = 0 := by unfold b01; rw [if_neg h]
theorem b01_b (P : Prop) : b01 P = 0 ∨ b01 P = 1 := by unfold b01; split; exact Or.inr rfl; exact Or.inl rfl
theorem r_isHall (h : zHp) (B : Nat → Int) (L : Nat) (q : Nat) (hq : q ≤ L) (T : mTk B L q h) : zCi mX12_isHallName 2 [zA 117] h (fun v h' => b01 (nmQ B L q) = v ∧ h = h') := by
  refine z_enter [zA 117] (by decide +kernel) (Nat.le_of_ble_eq_true rfl) rfl (fun hra hrg => ?_)
  have t14 := T.1
  refine z_al0 eX12_isHallName_0 ?_
  refine z_gi eX12_isHallName_1 fX12_149 zs117 ?_
  refine z_ki eX12_isHallName_4 ?_
  refine z_cne eX12_isHallName_5 rfl (fun c5 => ?_) (fun c5 => ?_)
  · refine z_ki eX12_isHallName_70 ?_
    refine ze_z eX12_isHallName_71 rfl (by first | exact Or.inl rfl | exact Or.inr rfl) ?_
    refine ⟨?_, rfl⟩
    refine b01_f (fun z => ?_)
    obtain ⟨y0, y1, y2, y3, y4, y5, y6, y7, y8⟩ := z
    omega
  · have e7 := T.2.2.1 (by omega)
    have e18 : h 117 18 ≤ 8 ↔ ¬ tkW B L q = 0 := by
      by_cases z0 : tkW B L q = 0
      · have := (e7.1 z0).2; omega
      · have := (e7.2 z0).2; omega
    refine z_al0 eX12_isHallName_8 ?_
    refine z_gi eX12_isHallName_9 fX12_162 zs117 ?_
    refine z_ki eX12_isHallName_12 ?_
    refine z_cgt eX12_isHallName_14 rfl (fun c14 => ?_) (fun c14 => ?_)
    · refine z_ki eX12_isHallName_70 ?_
      refine ze_z eX12_isHallName_71 rfl (by first | exact Or.inl rfl | exact Or.inr rfl) ?_
      refine ⟨?_, rfl⟩
      refine b01_f (fun z => ?_)
      obtain ⟨y0, y1, y2, y3, y4, y5, y6, y7, y8⟩ := z
      omega
    · refine z_al0 eX12_isHallName_17 ?_
      refine zc_vi0 eX12_isHallName_18 lX12_179 tX12_isNameWord zs117 (by decide) (Nat.le_of_ble_eq_true rfl) (r_kwName _ B L q hq T) ?_
      rintro _ _ ⟨rfl, rfl⟩ -
      refine z_ine eX12_isHallName_21 rfl (fun c21 => ?_) (fun c21 => ?_)
      · have z21 := iteT c21
        refine z_ki eX12_isHallName_70 ?_
        refine ze_z eX12_isHallName_71 rfl (by first | exact Or.inl rfl | exact Or.inr rfl) ?_
        refine ⟨?_, rfl⟩
        refine b01_f (fun z => ?_)
        obtain ⟨y0, y1, y2, y3, y4, y5, y6, y7, y8⟩ := z
        omega
      · have z21 := iteF c21
        refine z_al0 eX12_isHallName_24 ?_
        refine zc_vi0 eX12_isHallName_25 lX12_183 tX12_isOffWord zs117 (by decide) (Nat.le_of_ble_eq_true rfl) (r_kwOff _ B L q hq T) ?_
        rintro _ _ ⟨rfl, rfl⟩ -
        refine z_ine eX12_isHallName_28 rfl (fun c28 => ?_) (fun c28 => ?_)
        · have z28 := iteT c28
          refine z_ki eX12_isHallName_70 ?_
          refine ze_z eX12_isHallName_71 rfl (by first | exact Or.inl rfl | exact Or.inr rfl) ?_
          refine ⟨?_, rfl⟩
          refine b01_f (fun z => ?_)
          obtain ⟨y0, y1, y2, y3, y4, y5, y6, y7, y8⟩ := z
          omega
        · have z28 := iteF c28
          refine z_al0 eX12_isHallName_31 ?_
          refine zc_vi0 eX12_isHallName_32 lX12_186 tX12_isCostWord zs117 (by decide) (Nat.le_of_ble_eq_true rfl) (r_kwCost _ B L q hq T) ?_
          rintro _ _ ⟨rfl, rfl⟩ -
          refine z_ine eX12_isHallName_35 rfl (fun c35 => ?_) (fun c35 => ?_)
          · have z35 := iteT c35
            refine z_ki eX12_isHallName_70 ?_
            refine ze_z eX12_isHallName_71 rfl (by first | exact Or.inl rfl | exact Or.inr rfl) ?_
            refine ⟨?_, rfl⟩
            refine b01_f (fun z => ?_)
            obtain ⟨y0, y1, y2, y3, y4, y5, y6, y7, y8⟩ := z
            omega
          · have z35 := iteF c35
            refine z_al0 eX12_isHallName_38 ?_
            refine zc_vi0 eX12_isHallName_39 lX12_189 tX12_isSortWord zs117 (by decide) (Nat.le_of_ble_eq_true rfl) (r_kwSort _ B L q hq T) ?_
            rintro _ _ ⟨rfl, rfl⟩ -
            refine z_ine eX12_isHallName_42 rfl (fun c42 => ?_) (fun c42 => ?_)
            · have z42 := iteT c42
              refine z_ki eX12_isHallName_70 ?_
              refine ze_z eX12_isHallName_71 rfl (by first | exact Or.inl rfl | exact Or.inr rfl) ?_
              refine ⟨?_, rfl⟩
              refine b01_f (fun z => ?_)
              obtain ⟨y0, y1, y2, y3, y4, y5, y6, y7, y8⟩ := z
              omega
            · have z42 := iteF c42
              refine z_al0 eX12_isHallName_45 ?_
              refine zc_vi0 eX12_isHallName_46 lX12_192 tX12_isOutWord zs117 (by decide) (Nat.le_of_ble_eq_true rfl) (r_kwOut _ B L q hq T) ?_
              rintro _ _ ⟨rfl, rfl⟩ -
              refine z_ine eX12_isHallName_49 rfl (fun c49 => ?_) (fun c49 => ?_)
              · have z49 := iteT c49
                refine z_ki eX12_isHallName_70 ?_
                refine ze_z eX12_isHallName_71 rfl (by first | exact Or.inl rfl | exact Or.inr rfl) ?_
                refine ⟨?_, rfl⟩
                refine b01_f (fun z => ?_)
                obtain ⟨y0, y1, y2, y3, y4, y5, y6, y7, y8⟩ := z
                omega
              · have z49 := iteF c49
                refine z_al0 eX12_isHallName_52 ?_
                refine zc_vi0 eX12_isHallName_53 lX12_195 tX12_isOrderWord zs117 (by decide) (Nat.le_of_ble_eq_true rfl) (r_kwOrder _ B L q hq T) ?_
                rintro _ _ ⟨rfl, rfl⟩ -
                refine z_ine eX12_isHallName_56 rfl (fun c56 => ?_) (fun c56 => ?_)
                · have z56 := iteT c56
                  refine z_ki eX12_isHallName_70 ?_
                  refine ze_z eX12_isHallName_71 rfl (by first | exact Or.inl rfl | exact Or.inr rfl) ?_
                  refine ⟨?_, rfl⟩
                  refine b01_f (fun z => ?_)
                  obtain ⟨y0, y1, y2, y3, y4, y5, y6, y7, y8⟩ := z
                  omega
                · have z56 := iteF c56
                  refine z_al0 eX12_isHallName_59 ?_
                  refine zc_vi0 eX12_isHallName_60 lX12_198 tX12_isTiesWord zs117 (by decide) (Nat.le_of_ble_eq_true rfl) (r_kwTies _ B L q hq T) ?_
                  rintro _ _ ⟨rfl, rfl⟩ -
                  refine z_ine eX12_isHallName_63 rfl (fun c63 => ?_) (fun c63 => ?_)
                  · have z63 := iteT c63
                    refine z_ki eX12_isHallName_70 ?_
                    refine ze_z eX12_isHallName_71 rfl (by first | exact Or.inl rfl | exact Or.inr rfl) ?_
                    refine ⟨?_, rfl⟩
                    refine b01_f (fun z => ?_)
                    obtain ⟨y0, y1, y2, y3, y4, y5, y6, y7, y8⟩ := z
                    omega
                  · have z63 := iteF c63
                    refine z_ki eX12_isHallName_66 ?_
                    refine z_goto eX12_isHallName_67 rfl ?_
                    refine ze_z eX12_isHallName_71 rfl (by first | exact Or.inl rfl | exact Or.inr rfl) ?_
                    refine ⟨?_, rfl⟩
                    exact b01_t ⟨by omega, by omega, by omega, by omega, by omega, by omega, by omega, by omega, by omega⟩
theorem x_isNameW (h : zHp) (B : Nat → Int) (L : Nat) (hB : xB h B L) (q : Nat) (hq : q ≤ L) (T : xTk B L q h) : zCi mX5_isNameWord 5 [zA 2] h (fun v h' => b01 (nmQ B L q) = v ∧ h = h') := by
  refine z_enter [zA 2, zU] (by decide +kernel) (Nat.le_of_ble_eq_true rfl) rfl (fun hra hrg => ?_)
  refine z_al0 eX5_isNameWord_0 ?_
  refine z_ldcS eX5_isNameWord_1 sX5_84 ?_
  refine zc_vi1 eX5_isNameWord_3 lX5_86 tX9_at zs2 (by decide) (Nat.le_of_ble_eq_true rfl) (x_at _ B L hB q hq T 0 (by decide)) ?_
  rintro _ _ ⟨rfl, rfl⟩ -
  refine z_ine eX5_isNameWord_6 rfl (fun c6 => ?_) (fun c6 => ?_)
  · have z6 := iteT c6
    refine z_ki eX5_isNameWord_63 ?_
    refine z_goto eX5_isNameWord_64 rfl ?_
    refine z_is1 eX5_isNameWord_68 zn2 ?_
    refine z_al0 eX5_isNameWord_69 ?_
    refine zc_vi0 eX5_isNameWord_70 lX5_138 tX9_atShortWord zs2 (by decide) (Nat.le_of_ble_eq_true rfl) (x_atShort _ B L q T) ?_
    rintro _ _ ⟨rfl, rfl⟩ -
    refine z_ieq eX5_isNameWord_73 rfl (fun c73 => ?_) (fun c73 => ?_)
    · have z73 := iteF c73
      refine z_ki eX5_isNameWord_84 ?_
      refine ze_z eX5_isNameWord_85 rfl (by first | exact Or.inl rfl | exact Or.inr rfl) ?_
      refine ⟨?_, rfl⟩
      refine b01_f (fun z => ?_)
      obtain ⟨y0, y1, y2, y3, y4, y5, y6, y7, y8⟩ := z
      omega
    · have z73 := iteT c73
      refine z_il1 eX5_isNameWord_76 ?_
      refine z_ine eX5_isNameWord_77 rfl (fun c77 => ?_) (fun c77 => ?_)
      · refine z_ki eX5_isNameWord_84 ?_
        refine ze_z eX5_isNameWord_85 rfl (by first | exact Or.inl rfl | exact Or.inr rfl) ?_
        refine ⟨?_, rfl⟩
        refine b01_f (fun z => ?_)
        obtain ⟨y0, y1, y2, y3, y4, y5, y6, y7, y8⟩ := z
        omega
      · exact absurd c77 (by decide)
  · have z6 := iteF c6
    refine z_al0 eX5_isNameWord_9 ?_
    refine z_ldcS eX5_isNameWord_10 sX5_122 ?_
    refine zc_vi1 eX5_isNameWord_12 lX5_86 tX9_at zs2 (by decide) (Nat.le_of_ble_eq_true rfl) (x_at _ B L hB q hq T 1 (by decide)) ?_
    rintro _ _ ⟨rfl, rfl⟩ -
    refine z_ine eX5_isNameWord_15 rfl (fun c15 => ?_) (fun c15 => ?_)
    · have z15 := iteT c15
      refine z_ki eX5_isNameWord_63 ?_
      refine z_goto eX5_isNameWord_64 rfl ?_
      refine z_is1 eX5_isNameWord_68 zn2 ?_
      refine z_al0 eX5_isNameWord_69 ?_
      refine zc_vi0 eX5_isNameWord_70 lX5_138 tX9_atShortWord zs2 (by decide) (Nat.le_of_ble_eq_true rfl) (x_atShort _ B L q T) ?_
      rintro _ _ ⟨rfl, rfl⟩ -
      refine z_ieq eX5_isNameWord_73 rfl (fun c73 => ?_) (fun c73 => ?_)
      · have z73 := iteF c73
        refine z_ki eX5_isNameWord_84 ?_
        refine ze_z eX5_isNameWord_85 rfl (by first | exact Or.inl rfl | exact Or.inr rfl) ?_
        refine ⟨?_, rfl⟩
        refine b01_f (fun z => ?_)
        obtain ⟨y0, y1, y2, y3, y4, y5, y6, y7, y8⟩ := z
        omega
      · have z73 := iteT c73
        refine z_il1 eX5_isNameWord_76 ?_
        refine z_ine eX5_isNameWord_77 rfl (fun c77 => ?_) (fun c77 => ?_)
        · refine z_ki eX5_isNameWord_84 ?_
          refine ze_z eX5_isNameWord_85 rfl (by first | exact Or.inl rfl | exact Or.inr rfl) ?_
          refine ⟨?_, rfl⟩
          refine b01_f (fun z => ?_)
          obtain ⟨y0, y1, y2, y3, y4, y5, y6, y7, y8⟩ := z
          omega
        · exact absurd c77 (by decide)
    · have z15 := iteF c15
      refine z_al0 eX5_isNameWord_18 ?_
      refine z_ldcS eX5_isNameWord_19 sX5_124 ?_
      refine zc_vi1 eX5_isNameWord_21 lX5_86 tX9_at zs2 (by decide) (Nat.le_of_ble_eq_true rfl) (x_at _ B L hB q hq T 2 (by decide)) ?_
      rintro _ _ ⟨rfl, rfl⟩ -
      refine z_ine eX5_isNameWord_24 rfl (fun c24 => ?_) (fun c24 => ?_)
      · have z24 := iteT c24
        refine z_ki eX5_isNameWord_63 ?_
        refine z_goto eX5_isNameWord_64 rfl ?_
        refine z_is1 eX5_isNameWord_68 zn2 ?_
        refine z_al0 eX5_isNameWord_69 ?_
        refine zc_vi0 eX5_isNameWord_70 lX5_138 tX9_atShortWord zs2 (by decide) (Nat.le_of_ble_eq_true rfl) (x_atShort _ B L q T) ?_
        rintro _ _ ⟨rfl, rfl⟩ -
        refine z_ieq eX5_isNameWord_73 rfl (fun c73 => ?_) (fun c73 => ?_)
        · have z73 := iteF c73
          refine z_ki eX5_isNameWord_84 ?_
          refine ze_z eX5_isNameWord_85 rfl (by first | exact Or.inl rfl | exact Or.inr rfl) ?_
          refine ⟨?_, rfl⟩
          refine b01_f (fun z => ?_)
          obtain ⟨y0, y1, y2, y3, y4, y5, y6, y7, y8⟩ := z
          omega
        · have z73 := iteT c73
          refine z_il1 eX5_isNameWord_76 ?_
          refine z_ine eX5_isNameWord_77 rfl (fun c77 => ?_) (fun c77 => ?_)
          · refine z_ki eX5_isNameWord_84 ?_
            refine ze_z eX5_isNameWord_85 rfl (by first | exact Or.inl rfl | exact Or.inr rfl) ?_
            refine ⟨?_, rfl⟩
            refine b01_f (fun z => ?_)
            obtain ⟨y0, y1, y2, y3, y4, y5, y6, y7, y8⟩ := z
            omega
          · exact absurd c77 (by decide)
      · have z24 := iteF c24
        refine z_al0 eX5_isNameWord_27 ?_
        refine z_ldcS eX5_isNameWord_28 sX5_94 ?_
        refine zc_vi1 eX5_isNameWord_30 lX5_86 tX9_at zs2 (by decide) (Nat.le_of_ble_eq_true rfl) (x_at _ B L hB q hq T 3 (by decide)) ?_
        rintro _ _ ⟨rfl, rfl⟩ -
        refine z_ine eX5_isNameWord_33 rfl (fun c33 => ?_) (fun c33 => ?_)
        · have z33 := iteT c33
          refine z_ki eX5_isNameWord_63 ?_
          refine z_goto eX5_isNameWord_64 rfl ?_
          refine z_is1 eX5_isNameWord_68 zn2 ?_
          refine z_al0 eX5_isNameWord_69 ?_
          refine zc_vi0 eX5_isNameWord_70 lX5_138 tX9_atShortWord zs2 (by decide) (Nat.le_of_ble_eq_true rfl) (x_atShort _ B L q T) ?_
          rintro _ _ ⟨rfl, rfl⟩ -
          refine z_ieq eX5_isNameWord_73 rfl (fun c73 => ?_) (fun c73 => ?_)
          · have z73 := iteF c73
            refine z_ki eX5_isNameWord_84 ?_
            refine ze_z eX5_isNameWord_85 rfl (by first | exact Or.inl rfl | exact Or.inr rfl) ?_
            refine ⟨?_, rfl⟩
            refine b01_f (fun z => ?_)
            obtain ⟨y0, y1, y2, y3, y4, y5, y6, y7, y8⟩ := z
            omega
          · have z73 := iteT c73
            refine z_il1 eX5_isNameWord_76 ?_
            refine z_ine eX5_isNameWord_77 rfl (fun c77 => ?_) (fun c77 => ?_)
            · refine z_ki eX5_isNameWord_84 ?_
              refine ze_z eX5_isNameWord_85 rfl (by first | exact Or.inl rfl | exact Or.inr rfl) ?_
              refine ⟨?_, rfl⟩
              refine b01_f (fun z => ?_)
              obtain ⟨y0, y1, y2, y3, y4, y5, y6, y7, y8⟩ := z
              omega
            · exact absurd c77 (by decide)
        · have z33 := iteF c33
          refine z_al0 eX5_isNameWord_36 ?_
          refine z_ldcS eX5_isNameWord_37 sX5_135 ?_
          refine zc_vi1 eX5_isNameWord_39 lX5_86 tX9_at zs2 (by decide) (Nat.le_of_ble_eq_true rfl) (x_at _ B L hB q hq T 4 (by decide)) ?_
          rintro _ _ ⟨rfl, rfl⟩ -
          refine z_ine eX5_isNameWord_42 rfl (fun c42 => ?_) (fun c42 => ?_)
          · have z42 := iteT c42
            refine z_ki eX5_isNameWord_63 ?_
            refine z_goto eX5_isNameWord_64 rfl ?_
            refine z_is1 eX5_isNameWord_68 zn2 ?_
            refine z_al0 eX5_isNameWord_69 ?_
            refine zc_vi0 eX5_isNameWord_70 lX5_138 tX9_atShortWord zs2 (by decide) (Nat.le_of_ble_eq_true rfl) (x_atShort _ B L q T) ?_
            rintro _ _ ⟨rfl, rfl⟩ -
            refine z_ieq eX5_isNameWord_73 rfl (fun c73 => ?_) (fun c73 => ?_)
            · have z73 := iteF c73
              refine z_ki eX5_isNameWord_84 ?_
              refine ze_z eX5_isNameWord_85 rfl (by first | exact Or.inl rfl | exact Or.inr rfl) ?_
              refine ⟨?_, rfl⟩
              refine b01_f (fun z => ?_)
              obtain ⟨y0, y1, y2, y3, y4, y5, y6, y7, y8⟩ := z
              omega
            · have z73 := iteT c73
              refine z_il1 eX5_isNameWord_76 ?_
              refine z_ine eX5_isNameWord_77 rfl (fun c77 => ?_) (fun c77 => ?_)
              · refine z_ki eX5_isNameWord_84 ?_
                refine ze_z eX5_isNameWord_85 rfl (by first | exact Or.inl rfl | exact Or.inr rfl) ?_
                refine ⟨?_, rfl⟩
                refine b01_f (fun z => ?_)
                obtain ⟨y0, y1, y2, y3, y4, y5, y6, y7, y8⟩ := z
                omega
              · exact absurd c77 (by decide)
          · have z42 := iteF c42
            refine z_al0 eX5_isNameWord_45 ?_
            refine z_ldcS eX5_isNameWord_46 sX5_136 ?_
            refine zc_vi1 eX5_isNameWord_48 lX5_86 tX9_at zs2 (by decide) (Nat.le_of_ble_eq_true rfl) (x_at _ B L hB q hq T 5 (by decide)) ?_
            rintro _ _ ⟨rfl, rfl⟩ -
            refine z_ine eX5_isNameWord_51 rfl (fun c51 => ?_) (fun c51 => ?_)
            · have z51 := iteT c51
              refine z_ki eX5_isNameWord_63 ?_
              refine z_goto eX5_isNameWord_64 rfl ?_
              refine z_is1 eX5_isNameWord_68 zn2 ?_
              refine z_al0 eX5_isNameWord_69 ?_
              refine zc_vi0 eX5_isNameWord_70 lX5_138 tX9_atShortWord zs2 (by decide) (Nat.le_of_ble_eq_true rfl) (x_atShort _ B L q T) ?_
              rintro _ _ ⟨rfl, rfl⟩ -
              refine z_ieq eX5_isNameWord_73 rfl (fun c73 => ?_) (fun c73 => ?_)
              · have z73 := iteF c73
                refine z_ki eX5_isNameWord_84 ?_
                refine ze_z eX5_isNameWord_85 rfl (by first | exact Or.inl rfl | exact Or.inr rfl) ?_
                refine ⟨?_, rfl⟩
                refine b01_f (fun z => ?_)
                obtain ⟨y0, y1, y2, y3, y4, y5, y6, y7, y8⟩ := z
                omega
              · have z73 := iteT c73
                refine z_il1 eX5_isNameWord_76 ?_
                refine z_ine eX5_isNameWord_77 rfl (fun c77 => ?_) (fun c77 => ?_)
                · refine z_ki eX5_isNameWord_84 ?_
                  refine ze_z eX5_isNameWord_85 rfl (by first | exact Or.inl rfl | exact Or.inr rfl) ?_
                  refine ⟨?_, rfl⟩
                  refine b01_f (fun z => ?_)
                  obtain ⟨y0, y1, y2, y3, y4, y5, y6, y7, y8⟩ := z
                  omega
                · exact absurd c77 (by decide)
            · have z51 := iteF c51
              refine z_al0 eX5_isNameWord_54 ?_
              refine z_ldcS eX5_isNameWord_55 sX5_99 ?_
              refine zc_vi1 eX5_isNameWord_57 lX5_86 tX9_at zs2 (by decide) (Nat.le_of_ble_eq_true rfl) (x_at _ B L hB q hq T 6 (by decide)) ?_
              rintro _ _ ⟨rfl, rfl⟩ -
              refine z_ieq eX5_isNameWord_60 rfl (fun c60 => ?_) (fun c60 => ?_)
              · have z60 := iteF c60
                refine z_ki eX5_isNameWord_67 ?_
                refine z_is1 eX5_isNameWord_68 zn2 ?_
                refine z_al0 eX5_isNameWord_69 ?_
                refine zc_vi0 eX5_isNameWord_70 lX5_138 tX9_atShortWord zs2 (by decide) (Nat.le_of_ble_eq_true rfl) (x_atShort _ B L q T) ?_
                rintro _ _ ⟨rfl, rfl⟩ -
                refine z_ieq eX5_isNameWord_73 rfl (fun c73 => ?_) (fun c73 => ?_)
                · have z73 := iteF c73
                  refine z_ki eX5_isNameWord_84 ?_
                  refine ze_z eX5_isNameWord_85 rfl (by first | exact Or.inl rfl | exact Or.inr rfl) ?_
                  refine ⟨?_, rfl⟩
                  refine b01_f (fun z => ?_)
                  obtain ⟨y0, y1, y2, y3, y4, y5, y6, y7, y8⟩ := z
                  omega
                · have z73 := iteT c73
                  refine z_il1 eX5_isNameWord_76 ?_
                  refine z_ine eX5_isNameWord_77 rfl (fun c77 => ?_) (fun c77 => ?_)
                  · exact absurd rfl c77
                  · refine z_ki eX5_isNameWord_80 ?_
                    refine z_goto eX5_isNameWord_81 rfl ?_
                    refine ze_z eX5_isNameWord_85 rfl (by first | exact Or.inl rfl | exact Or.inr rfl) ?_
                    refine ⟨?_, rfl⟩
                    exact b01_t ⟨by omega, by omega, by omega, by omega, by omega, by omega, by omega, by omega, by omega⟩
              · have z60 := iteT c60
                refine z_ki eX5_isNameWord_63 ?_
                refine z_goto eX5_isNameWord_64 rfl ?_
                refine z_is1 eX5_isNameWord_68 zn2 ?_
                refine z_al0 eX5_isNameWord_69 ?_
                refine zc_vi0 eX5_isNameWord_70 lX5_138 tX9_atShortWord zs2 (by decide) (Nat.le_of_ble_eq_true rfl) (x_atShort _ B L q T) ?_
                rintro _ _ ⟨rfl, rfl⟩ -
                refine z_ieq eX5_isNameWord_73 rfl (fun c73 => ?_) (fun c73 => ?_)
                · have z73 := iteF c73
                  refine z_ki eX5_isNameWord_84 ?_
                  refine ze_z eX5_isNameWord_85 rfl (by first | exact Or.inl rfl | exact Or.inr rfl) ?_
                  refine ⟨?_, rfl⟩
                  refine b01_f (fun z => ?_)
                  obtain ⟨y0, y1, y2, y3, y4, y5, y6, y7, y8⟩ := z
                  omega
                · have z73 := iteT c73
                  refine z_il1 eX5_isNameWord_76 ?_
                  refine z_ine eX5_isNameWord_77 rfl (fun c77 => ?_) (fun c77 => ?_)
                  · refine z_ki eX5_isNameWord_84 ?_
                    refine ze_z eX5_isNameWord_85 rfl (by first | exact Or.inl rfl | exact Or.inr rfl) ?_
                    refine ⟨?_, rfl⟩
                    refine b01_f (fun z => ?_)
                    obtain ⟨y0, y1, y2, y3, y4, y5, y6, y7, y8⟩ := z
                    omega
                  · exact absurd c77 (by decide)
