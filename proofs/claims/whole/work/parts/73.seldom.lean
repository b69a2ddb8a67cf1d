-- seldom (written by wip/tools/specD4.py)
def pas : Nat → Nat → Nat
  | _, 0 => 1
  | 0, _ + 1 => 0
  | n + 1, k + 1 => pas n k + pas n (k + 1)
theorem pas_0 (n : Nat) : pas n 0 = 1 := by cases n <;> rfl
theorem pas_z : ∀ n k, n < k → pas n k = 0 := by
  intro n
  induction n with
  | zero => intro k hk; obtain ⟨j, rfl⟩ : ∃ j, k = j + 1 := ⟨k - 1, by omega⟩; rfl
  | succ n ih =>
    intro k hk
    obtain ⟨j, rfl⟩ : ∃ j, k = j + 1 := ⟨k - 1, by omega⟩
    rw [pas, ih j (by omega), ih (j + 1) (by omega)]
theorem pas_abs : ∀ n k, pas n (k + 1) * (k + 1) = pas n k * (n - k) := by
  intro n
  induction n with
  | zero => intro k; rw [show pas 0 (k + 1) = 0 from rfl, Nat.zero_sub, Nat.mul_zero, Nat.zero_mul]
  | succ n ih =>
    intro k
    have h1 := ih k
    rw [show pas (n + 1) (k + 1) = pas n k + pas n (k + 1) from rfl, Nat.add_mul, h1]
    cases k with
    | zero => rw [pas_0, pas_0]; omega
    | succ j =>
      rw [show pas (n + 1) (j + 1) = pas n j + pas n (j + 1) from rfl]
      have h2 := ih j
      by_cases hj : j + 1 ≤ n
      · rw [show n + 1 - (j + 1) = n - j by omega, Nat.add_mul, ← h2, ← Nat.mul_add, ← Nat.mul_add]
        congr 1
        omega
      · rw [pas_z n (j + 1) (by omega), Nat.zero_mul, Nat.zero_mul, Nat.add_zero]
        by_cases e : j = n
        · subst e; rw [Nat.sub_self, Nat.mul_zero]
        · rw [pas_z n j (by omega), Nat.zero_mul]
theorem chF_pas (n : Nat) : ∀ k, chF n k = pas n k := by
  intro k
  induction k with
  | zero => rw [pas_0]; rfl
  | succ k ih => rw [chF, ih, ← pas_abs, Nat.mul_div_cancel _ (by omega)]
theorem vdm : ∀ a b j, sumM (fun k => pas a k * pas b (j - k)) (j + 1) = pas (a + b) j := by
  have shift : ∀ (f : Nat → Nat) n, sumM f (n + 1) = f 0 + sumM (fun k => f (k + 1)) n := by
    intro f n
    induction n with
    | zero => rw [sumM, sumM, sumM]; omega
    | succ n ih => rw [sumM, ih, sumM]; omega
  have addS : ∀ (f g : Nat → Nat) n, sumM (fun k => f k + g k) n = sumM f n + sumM g n := by
    intro f g n
    induction n with
    | zero => rfl
    | succ n ih => rw [sumM, ih, sumM, sumM]; omega
  intro a
  induction a with
  | zero =>
    intro b j
    rw [shift, pas_0, Nat.one_mul, Nat.sub_zero, Nat.zero_add]
    have : ∀ n, sumM (fun k => pas 0 (k + 1) * pas b (j - (k + 1))) n = 0 := by
      intro n
      induction n with
      | zero => rfl
      | succ n ih => rw [sumM, ih, show pas 0 (n + 1) = 0 from rfl, Nat.zero_mul]
    rw [this, Nat.add_zero]
  | succ a ih =>
    intro b j
    cases j with
    | zero => rw [sumM, sumM, pas_0, pas_0, pas_0]
    | succ j =>
      rw [shift, show (fun k => pas (a + 1) (k + 1) * pas b (j + 1 - (k + 1))) = (fun k => pas a k * pas b (j - k) + pas a (k + 1) * pas b (j + 1 - (k + 1))) from funext (fun k => by rw [show pas (a + 1) (k + 1) = pas a k + pas a (k + 1) from rfl, Nat.add_mul, show j + 1 - (k + 1) = j - k by omega]), addS, ih b j, show a + 1 + b = a + b + 1 by omega, show pas (a + b + 1) (j + 1) = pas (a + b) j + pas (a + b) (j + 1) from rfl, ← ih b (j + 1), shift (fun k => pas a k * pas b (j + 1 - k)), pas_0, pas_0]
      omega
theorem pas_lt {n k : Nat} (hn : n < 100) (hk : k < 13) : pas n k < 2000000000000000 := by rw [← chF_pas]; exact (ch_at hn hk).1
theorem pas_mul (a b i j : Nat) : pas a i * pas b j ≤ pas (a + b) (i + j) := by
  rw [← vdm a b (i + j)]
  have h1 := sumM_mono (fun k => pas a k * pas b (i + j - k)) (show i + 1 ≤ i + j + 1 by omega)
  rw [sumM, show i + j - i = j by omega] at h1
  omega
def sF (D : Nat → Int) (a : Int) : Nat → Nat → Nat → (Nat → Int) → Nat → Nat
  | 0, _, left, w, wt => if left = 0 then (if winW D w (D 2).toNat = a then wt else 0) else 0
  | r + 1, s, left, w, wt => sumM (fun k => sF D a r (s + 1) (left - k) (fu w s ((inN D s : Int) - (k : Int))) (wt * chF (inN D s) k)) (min left (inN D s) + 1)
theorem sF_b {D : Nat → Int} {a : Int} : ∀ r s left w wt, sF D a r s left w wt ≤ wt * pas (rst D r s) left := by
  intro r
  induction r with
  | zero =>
    intro s left w wt
    rw [sF, rst]
    split
    · next e => subst e; rw [pas_0, Nat.mul_one]; split; exact Nat.le_refl _; omega
    · omega
  | succ r ih =>
    intro s left w wt
    rw [sF, rst, ← vdm]
    refine Nat.le_trans (sumM_le _ (fun k _ => ih (s + 1) (left - k) _ _)) ?_
    rw [show (fun k => wt * chF (inN D s) k * pas (rst D r (s + 1)) (left - k)) = (fun k => wt * (pas (inN D s) k * pas (rst D r (s + 1)) (left - k))) from funext (fun k => by rw [chF_pas, Nat.mul_assoc]), sumM_mul]
    exact Nat.mul_le_mul_left _ (sumM_mono _ (by omega))
theorem sF_p {D : Nat → Int} {a : Int} {r s left wt : Nat} (w : Nat → Int) {k : Nat} (hk : k ≤ min left (inN D s)) : sumM (fun k => sF D a r (s + 1) (left - k) (fu w s ((inN D s : Int) - (k : Int))) (wt * chF (inN D s) k)) k + wt * chF (inN D s) k * pas (rst D r (s + 1)) (left - k) ≤ wt * pas (rst D (r + 1) s) left := by
  have h1 := sumM_le (f := fun k => sF D a r (s + 1) (left - k) (fu w s ((inN D s : Int) - (k : Int))) (wt * chF (inN D s) k)) (g := fun k => wt * (pas (inN D s) k * pas (rst D r (s + 1)) (left - k))) k (fun j _ => by
    have := sF_b (D := D) (a := a) r (s + 1) (left - j) (fu w s ((inN D s : Int) - (j : Int))) (wt * chF (inN D s) j)
    rw [chF_pas, Nat.mul_assoc] at this
    rw [chF_pas]
    exact this)
  rw [sumM_mul] at h1
  have h2 := sumM_mono (fun k => pas (inN D s) k * pas (rst D r (s + 1)) (left - k)) (show k + 1 ≤ left + 1 by omega)
  rw [vdm, sumM] at h2
  have h3 := Nat.mul_le_mul_left wt h2
  rw [Nat.mul_add] at h3
  rw [rst, chF_pas, Nat.mul_assoc]
  omega
theorem fu_id {w : Nat → Int} {s : Nat} {y : Int} (h : w s = y) : fu w s y = w := funext (fun i => by
  unfold fu
  split
  · next e => rw [e, h]
  · rfl)
theorem sF_0 {D : Nat → Int} {a : Int} : ∀ r s w wt, (∀ j, s ≤ j → j < s + r → w j = (inN D j : Int)) → sF D a r s 0 w wt = if winW D w (D 2).toNat = a then wt else 0 := by
  intro r
  induction r with
  | zero => intro s w wt _; rw [sF, if_pos rfl]
  | succ r ih =>
    intro s w wt h
    rw [sF, Nat.zero_min, sumM, sumM, Nat.zero_add, show fu w s ((inN D s : Int) - ((0 : Nat) : Int)) = w from fu_id (by rw [h s (by omega) (by omega)]; omega), show chF (inN D s) 0 = 1 from rfl, Nat.mul_one, Nat.sub_zero]
    exact ih (s + 1) w wt (fun j h1 h2 => h j (by omega) (by omega))
/-- the room of a striking: weights so far, and what may still come -/
def sB (D : Nat → Int) (r s left wt acc : Nat) : Prop := (∃ pre used : Nat, pre + rst D r s ≤ 99 ∧ used + left ≤ 12 ∧ wt ≤ pas pre used) ∧ acc + wt * pas (rst D r s) left ≤ 2000000000000000
theorem sB_s {D : Nat → Int} {a : Int} {r s left wt acc k : Nat} (w : Nat → Int) (h : sB D (r + 1) s left wt acc) (hk : k ≤ min left (inN D s)) : sB D r (s + 1) (left - k) (wt * chF (inN D s) k) (acc + sumM (fun k => sF D a r (s + 1) (left - k) (fu w s ((inN D s : Int) - (k : Int))) (wt * chF (inN D s) k)) k) ∧ wt * chF (inN D s) k < 2000000000000000 ∧ inN D s < 100 ∧ left ≤ 12 := by
  obtain ⟨⟨pre, used, h1, h2, h3⟩, h4⟩ := h
  rw [rst] at h1
  have h5 : wt * chF (inN D s) k ≤ pas (pre + inN D s) (used + k) := by
    rw [chF_pas]
    exact Nat.le_trans (Nat.mul_le_mul_right _ h3) (pas_mul _ _ _ _)
  have h6 := pas_lt (n := pre + inN D s) (k := used + k) (by omega) (by omega)
  refine ⟨⟨⟨pre + inN D s, used + k, by omega, by omega, h5⟩, ?_⟩, by omega, by omega, by omega⟩
  have := sF_p (a := a) (r := r) (wt := wt) w hk
  omega
theorem sB_w {D : Nat → Int} {r s left wt acc : Nat} (h : sB D r s left wt acc) (h0 : left = 0) : acc + wt ≤ 2000000000000000 := by
  subst h0
  have := h.2
  rw [pas_0] at this
  omega
def HY (D : Nat → Int) (a : Int) (h : zHp) : Prop := rHR h ∧ h 122 = D ∧ h 63 3 = a
theorem HY.xf {D : Nat → Int} {a : Int} {h g : zHp} (H : HY D a h) (F : zXf h g) (h3 : g 63 3 = h 63 3) : HY D a g := ⟨H.1.xf F, (F.2.1 122 (by omega)).trans H.2.1, h3.trans H.2.2⟩
def wIs (D : Nat → Int) (h : zHp) (c : Nat) (w : Nat → Int) : Prop := ∀ j : Nat, j < nS D → h c j = w j ∧ 0 ≤ w j ∧ w j ≤ 198
theorem x_st0 (D : Nat → Int) (hb : dB D) (hst : D 2 < ((2 ^ nN D : Nat) : Int)) (a : Int) (s : Nat) (left : Nat) (w : Nat → Int) (wt acc : Nat) (h : zHp) (hs : s + 0 = nS D) (Hx : HY D a h) (hw : wIs D h 64 w) (hwi : ∀ j : Nat, s ≤ j → j < s + 0 → w j = (inN D j : Int)) (h4 : h 63 4 = (acc : Int)) (hB : sB D 0 s left wt acc) : zCv mX1_strike (4 + 0) [zA 63, zI s, zI left, zJ wt] h (fun h' => h' 63 4 = ((acc + sF D a 0 s left w wt : Nat) : Int) ∧ zXf h h' ∧ (∀ j : Nat, j < nS D → h' 64 j = h 64 j) ∧ HY D a h') := by
  refine z_enter [zA 63, zI s, zI left, zJ wt, zU, zU, zU] (by decide +kernel) (Nat.le_of_ble_eq_true rfl) rfl (fun hra hrg => ?_)
  obtain ⟨Hr, h122, h3⟩ := id Hx
  obtain ⟨⟨-, -, e0, e1, e7, ek, es, eo, hp⟩, hru⟩ : hallR h 4 D (h 123) ∧ ruleR h 24 D := by rw [← h122]; exact Hr
  have hS := nS_eq hb
  have hS20 := nS_le hb
  have hb2 := hb.2.2.1
  have hl12 : left ≤ 12 := by obtain ⟨⟨_, _, _, _, _⟩, _⟩ := hB; omega
  refine z_il2 eX1_strike_0 ?_
  refine z_ine eX1_strike_1 rfl (fun c1 => ?_) (fun c1 => ?_)
  · refine z_il1 eX1_strike_44 ?_
    refine z_al0 eX1_strike_45 ?_
    refine z_ga eX1_strike_46 fX1_22 zs63 (t := 4) rfl ?_
    refine z_gi eX1_strike_49 fX1_57 zs4 ?_
    refine z_cge eX1_strike_52 rfl (fun c52 => ?_) (fun c52 => ?_)
    · refine ze_v eX1_strike_61 rfl ?_
      exact ⟨by rw [h4, sF, if_neg (by omega)]; rfl, zXf.rf, fun _ _ => rfl, Hx⟩
    · exfalso; omega
  · have hwt := sB_w hB (by omega)
    refine z_al0 eX1_strike_4 ?_
    refine z_dup eX1_strike_5 zn2 ?_
    refine z_gj eX1_strike_6 fX1_34 zs63 ?_
    rw [h4]
    refine z_al0 eX1_strike_9 ?_
    refine z_ga eX1_strike_10 fX1_26 zs63 (t := 50) rfl ?_
    refine z_al0 eX1_strike_13 ?_
    refine z_ga eX1_strike_14 fX1_22 zs63 (t := 4) rfl ?_
    refine z_gi eX1_strike_17 fX1_60 zs4 ?_
    refine z_al0 eX1_strike_20 ?_
    refine z_ga eX1_strike_21 fX1_9 zs63 (t := 64) rfl ?_
    rw [show h 4 1 = (((D 2).toNat : Nat) : Int) from e1.trans (stN hb)]
    refine zc_vi2 eX1_strike_24 lX1_63 tX2_winnerOf zs50 (by omega) (Nat.le_of_ble_eq_true rfl) (x_winWD Hr h122 64 rfl (by decide) w (fun j hj => (hw j hj).1) (fun j hj => (hw j hj).2) _ (stL hb hst)) ?_
    rintro _ g ⟨rfl, hfr⟩ -
    have hg : zXf h g := zXf.rf.fr hfr (by decide) (fun _ => rfl)
    refine z_al0 eX1_strike_27 ?_
    refine z_gi eX1_strike_28 fX1_30 zs63 ?_
    rw [hfr 63 (by decide), h3]
    refine z_cne eX1_strike_31 rfl (fun c31 => ?_) (fun c31 => ?_)
    · refine z_kj eX1_strike_38 ?_
      refine z_ladd eX1_strike_39 ?_
      rw [show (0 : Int) = ((0 : Nat) : Int) from rfl, zl_addN (by omega)]
      refine z_pj eX1_strike_40 pX1_34 zs63 ?_
      refine ze_v eX1_strike_43 rfl ?_
      have el : left = 0 := by omega
      subst el
      refine ⟨?_, hg.up (by omega) (by omega) rfl, fun j hj => by rw [zup_off (by decide), hfr 64 (by decide)], Hx.xf (hg.up (by omega) (by omega) rfl) (by rw [zup_ne (by decide), hfr 63 (by decide)])⟩
      rw [zup_at, sF_0 _ _ _ _ hwi, if_neg c31]
    · refine z_ll3 eX1_strike_34 ?_
      refine z_goto eX1_strike_35 rfl ?_
      refine z_ladd eX1_strike_39 ?_
      rw [zl_addN (by omega)]
      refine z_pj eX1_strike_40 pX1_34 zs63 ?_
      refine ze_v eX1_strike_43 rfl ?_
      have el : left = 0 := by omega
      subst el
      refine ⟨?_, hg.up (by omega) (by omega) rfl, fun j hj => by rw [zup_off (by decide), hfr 64 (by decide)], Hx.xf (hg.up (by omega) (by omega) rfl) (by rw [zup_ne (by decide), hfr 63 (by decide)])⟩
      rw [zup_at, sF_0 _ _ _ _ hwi, if_pos c31]
theorem x_st_l (D : Nat → Int) (hb : dB D) (hst : D 2 < ((2 ^ nN D : Nat) : Int)) (a : Int) (r : Nat) (IH : ∀ (s left : Nat) (w : Nat → Int) (wt acc : Nat) (h : zHp), s + r = nS D → HY D a h → wIs D h 64 w → (∀ j : Nat, s ≤ j → j < s + r → w j = (inN D j : Int)) → h 63 4 = (acc : Int) → sB D r s left wt acc → zCv mX1_strike (4 + r) [zA 63, zI s, zI left, zJ wt] h (fun h' => h' 63 4 = ((acc + sF D a r s left w wt : Nat) : Int) ∧ zXf h h' ∧ (∀ j : Nat, j < nS D → h' 64 j = h 64 j) ∧ HY D a h')) (s : Nat) (left : Nat) (w : Nat → Int) (wt acc : Nat) (h : zHp) (hs : s + (r + 1) = nS D) (hw : wIs D h 64 w) (hwi : ∀ j : Nat, s ≤ j → j < s + (r + 1) → w j = (inN D j : Int)) (hB : sB D (r + 1) s left wt acc) (hl0 : ¬ left = 0) : ∀ (q k : Nat) (g : zHp), k + q = min left (inN D s) + 1 → HY D a g → zXf h g → (∀ j : Nat, j < nS D → ¬ j = s → g 64 j = h 64 j) → g 63 4 = ((acc + sumM (fun k => sF D a r (s + 1) (left - k) (fu w s ((inN D s : Int) - (k : Int))) (wt * chF (inN D s) k)) k : Nat) : Int) → zRW mX1_strike (4 + (r + 1)) (0, 0) 76 [zA 63, zI s, zI left, zJ wt, zU, zI (inN D s : Nat), zI k] [] 143 g (zqv (fun h' => h' 63 4 = ((acc + sF D a (r + 1) s left w wt : Nat) : Int) ∧ zXf h h' ∧ (∀ j : Nat, j < nS D → h' 64 j = h 64 j) ∧ HY D a h')) := by
  have hS20 := nS_le hb
  have hbs := hb.2.2.2.2.1 s (by omega)
  have hin : (inN D s : Int) = D (20 + s) := by unfold inN; omega
  have hl12 : left ≤ 12 := by obtain ⟨⟨_, _, _, _, _⟩, _⟩ := hB; omega
  intro q
  induction q using Nat.strongRecOn with
  | ind q ih =>
    intro k g hk Hg hxf hkeep h4
    refine z_il6 eX1_strike_76 ?_
    refine z_il5 eX1_strike_78 ?_
    refine z_cgt eX1_strike_80 rfl (fun c80 => ?_) (fun c80 => ?_)
    · refine z_al0 eX1_strike_126 ?_
      refine z_ga eX1_strike_127 fX1_9 zs63 (t := 64) rfl ?_
      refine z_il1 eX1_strike_130 ?_
      refine z_il5 eX1_strike_131 ?_
      refine zs_iN eX1_strike_133 zs64 (j := s) (by omega) (by omega) ?_
      refine ze_v eX1_strike_134 rfl ?_
      have e : k = min left (inN D s) + 1 := by omega
      subst e
      refine ⟨by rw [zup_off (by decide), h4, sF], hxf.up (by omega) (by omega) rfl, fun j hj => ?_, Hg.xf (zXf.rf.up (by omega) (by omega) rfl) (by rw [zup_off (by decide)])⟩
      by_cases e : j = s
      · subst e; rw [zup_at, (hw j hj).1, hwi j (by omega) (by omega)]
      · rw [zup_ne (by omega)]; exact hkeep j hj e
    · refine z_il6 eX1_strike_83 ?_
      refine z_il2 eX1_strike_85 ?_
      refine z_cgt eX1_strike_86 rfl (fun c86 => ?_) (fun c86 => ?_)
      · refine z_al0 eX1_strike_126 ?_
        refine z_ga eX1_strike_127 fX1_9 zs63 (t := 64) rfl ?_
        refine z_il1 eX1_strike_130 ?_
        refine z_il5 eX1_strike_131 ?_
        refine zs_iN eX1_strike_133 zs64 (j := s) (by omega) (by omega) ?_
        refine ze_v eX1_strike_134 rfl ?_
        have e : k = min left (inN D s) + 1 := by omega
        subst e
        refine ⟨by rw [zup_off (by decide), h4, sF], hxf.up (by omega) (by omega) rfl, fun j hj => ?_, Hg.xf (zXf.rf.up (by omega) (by omega) rfl) (by rw [zup_off (by decide)])⟩
        by_cases e : j = s
        · subst e; rw [zup_at, (hw j hj).1, hwi j (by omega) (by omega)]
        · rw [zup_ne (by omega)]; exact hkeep j hj e
      · have hkn : k ≤ min left (inN D s) := by omega
        obtain ⟨hsb, hw1, hi100, -⟩ := sB_s (a := a) w hB hkn
        have hwn : wIs D (zup g 64 s ((inN D s : Int) - (k : Int))) 64 (fu w s ((inN D s : Int) - (k : Int))) := fun j hj => by
          unfold fu
          by_cases e : j = s
          · subst e; rw [if_pos rfl, zup_at]; omega
          · rw [if_neg e, zup_ne (by omega), hkeep j hj e]; exact hw j hj
        have hwin : ∀ j : Nat, s + 1 ≤ j → j < s + 1 + r → fu w s ((inN D s : Int) - (k : Int)) j = (inN D j : Int) := fun j j1 j2 => by
          unfold fu
          rw [if_neg (by omega)]
          exact hwi j (by omega) (by omega)
        refine z_al0 eX1_strike_89 ?_
        refine z_ga eX1_strike_90 fX1_9 zs63 (t := 64) rfl ?_
        refine z_il1 eX1_strike_93 ?_
        refine z_il5 eX1_strike_94 ?_
        refine z_il6 eX1_strike_96 ?_
        refine z_isubN eX1_strike_98 (by omega) (by omega) ?_
        refine zs_iN eX1_strike_99 zs64 (j := s) (by omega) (by omega) ?_
        refine z_al0 eX1_strike_100 ?_
        refine z_il1 eX1_strike_101 ?_
        refine z_ki eX1_strike_102 ?_
        refine z_iaddN eX1_strike_103 (by omega) (by omega) ?_
        refine z_il2 eX1_strike_104 ?_
        refine z_il6 eX1_strike_105 ?_
        refine z_isubN eX1_strike_107 (by omega) (by omega) ?_
        refine z_ll3 eX1_strike_108 ?_
        refine z_il5 eX1_strike_109 ?_
        refine z_il6 eX1_strike_111 ?_
        rw [show (s : Int) + 1 = ((s + 1 : Nat) : Int) by omega, show (left : Int) - (k : Int) = ((left - k : Nat) : Int) by omega]
        refine zc_sj2 eX1_strike_113 lX1_78 tX1_choose (by omega) (Nat.le_of_ble_eq_true rfl) (x_choose _ (inN D s) k (by omega) (by omega) (by omega)) ?_
        rintro _ _ ⟨rfl, rfl⟩ -
        refine z_lmul eX1_strike_116 ?_
        rw [zl_mulN (by omega)]
        refine zc_sv4 eX1_strike_117 lX1_88 tX1_strike (by omega) (Nat.le_of_ble_eq_true rfl) (IH (s + 1) (left - k) (fu w s ((inN D s : Int) - (k : Int))) (wt * chF (inN D s) k) (acc + sumM (fun k => sF D a r (s + 1) (left - k) (fu w s ((inN D s : Int) - (k : Int))) (wt * chF (inN D s) k)) k) _ (by omega) (Hg.xf (zXf.rf.up (by omega) (by omega) rfl) (by rw [zup_off (by decide)])) hwn hwin (by rw [zup_off (by decide)]; exact h4) hsb) ?_
        rintro g2 ⟨s4, hx2, hk2, Hg2⟩
        refine z_incN6 eX1_strike_120 zn0 (by omega) (by omega) ?_
        refine z_goto eX1_strike_123 rfl ?_
        refine ih (q - 1) (by omega) (k + 1) g2 (by omega) Hg2 ((hxf.up (by omega) (by omega) rfl).tr hx2) (fun j hj hjs => ?_) (by rw [s4, sumM, Nat.add_assoc])
        rw [hk2 j hj, zup_ne (by omega)]; exact hkeep j hj hjs
theorem x_stS (D : Nat → Int) (hb : dB D) (hst : D 2 < ((2 ^ nN D : Nat) : Int)) (a : Int) (r : Nat) (IH : ∀ (s left : Nat) (w : Nat → Int) (wt acc : Nat) (h : zHp), s + r = nS D → HY D a h → wIs D h 64 w → (∀ j : Nat, s ≤ j → j < s + r → w j = (inN D j : Int)) → h 63 4 = (acc : Int) → sB D r s left wt acc → zCv mX1_strike (4 + r) [zA 63, zI s, zI left, zJ wt] h (fun h' => h' 63 4 = ((acc + sF D a r s left w wt : Nat) : Int) ∧ zXf h h' ∧ (∀ j : Nat, j < nS D → h' 64 j = h 64 j) ∧ HY D a h')) (s : Nat) (left : Nat) (w : Nat → Int) (wt acc : Nat) (h : zHp) (hs : s + (r + 1) = nS D) (Hx : HY D a h) (hw : wIs D h 64 w) (hwi : ∀ j : Nat, s ≤ j → j < s + (r + 1) → w j = (inN D j : Int)) (h4 : h 63 4 = (acc : Int)) (hB : sB D (r + 1) s left wt acc) : zCv mX1_strike (4 + (r + 1)) [zA 63, zI s, zI left, zJ wt] h (fun h' => h' 63 4 = ((acc + sF D a (r + 1) s left w wt : Nat) : Int) ∧ zXf h h' ∧ (∀ j : Nat, j < nS D → h' 64 j = h 64 j) ∧ HY D a h') := by
  refine z_enter [zA 63, zI s, zI left, zJ wt, zU, zU, zU] (by decide +kernel) (Nat.le_of_ble_eq_true rfl) rfl (fun hra hrg => ?_)
  obtain ⟨Hr, h122, h3⟩ := id Hx
  obtain ⟨⟨-, -, e0, e1, e7, ek, es, eo, hp⟩, hru⟩ : hallR h 4 D (h 123) ∧ ruleR h 24 D := by rw [← h122]; exact Hr
  have hS := nS_eq hb
  have hS20 := nS_le hb
  have hb2 := hb.2.2.1
  have hl12 : left ≤ 12 := by obtain ⟨⟨_, _, _, _, _⟩, _⟩ := hB; omega
  have hin : D (20 + s) = ((inN D s : Nat) : Int) := by have := hb.2.2.2.2.1 s (by omega); unfold inN; omega
  refine z_il2 eX1_strike_0 ?_
  refine z_ine eX1_strike_1 rfl (fun c1 => ?_) (fun c1 => ?_)
  · refine z_il1 eX1_strike_44 ?_
    refine z_al0 eX1_strike_45 ?_
    refine z_ga eX1_strike_46 fX1_22 zs63 (t := 4) rfl ?_
    refine z_gi eX1_strike_49 fX1_57 zs4 ?_
    refine z_cge eX1_strike_52 rfl (fun c52 => ?_) (fun c52 => ?_)
    · exfalso; omega
    · refine z_il1 eX1_strike_55 ?_
      refine z_ki eX1_strike_56 ?_
      refine z_clt eX1_strike_58 rfl (fun c58 => ?_) (fun c58 => ?_)
      · refine z_al0 eX1_strike_62 ?_
        refine z_ga eX1_strike_63 fX1_22 zs63 (t := 4) rfl ?_
        refine z_ga eX1_strike_66 fX1_69 zs4 (t := 9) rfl ?_
        refine z_il1 eX1_strike_69 ?_
        refine zr_iN eX1_strike_70 zs9 (j := s) (by omega) (by omega) ?_
        rw [show h 9 s = ((inN D s : Nat) : Int) from ((es s (by omega)).1).trans hin]
        refine z_is5 eX1_strike_71 zn9 ?_
        refine z_ki eX1_strike_73 ?_
        refine z_is6 eX1_strike_74 zn0 ?_
        exact x_st_l D hb hst a r IH s left w wt acc h hs hw hwi hB (by omega) (min left (inN D s) + 1) 0 h (by omega) Hx zXf.rf (fun _ _ _ => rfl) (by rw [h4]; rfl)
      · exfalso; omega
  · have hwt := sB_w hB (by omega)
    refine z_al0 eX1_strike_4 ?_
    refine z_dup eX1_strike_5 zn2 ?_
    refine z_gj eX1_strike_6 fX1_34 zs63 ?_
    rw [h4]
    refine z_al0 eX1_strike_9 ?_
    refine z_ga eX1_strike_10 fX1_26 zs63 (t := 50) rfl ?_
    refine z_al0 eX1_strike_13 ?_
    refine z_ga eX1_strike_14 fX1_22 zs63 (t := 4) rfl ?_
    refine z_gi eX1_strike_17 fX1_60 zs4 ?_
    refine z_al0 eX1_strike_20 ?_
    refine z_ga eX1_strike_21 fX1_9 zs63 (t := 64) rfl ?_
    rw [show h 4 1 = (((D 2).toNat : Nat) : Int) from e1.trans (stN hb)]
    refine zc_vi2 eX1_strike_24 lX1_63 tX2_winnerOf zs50 (by omega) (Nat.le_of_ble_eq_true rfl) (x_winWD Hr h122 64 rfl (by decide) w (fun j hj => (hw j hj).1) (fun j hj => (hw j hj).2) _ (stL hb hst)) ?_
    rintro _ g ⟨rfl, hfr⟩ -
    have hg : zXf h g := zXf.rf.fr hfr (by decide) (fun _ => rfl)
    refine z_al0 eX1_strike_27 ?_
    refine z_gi eX1_strike_28 fX1_30 zs63 ?_
    rw [hfr 63 (by decide), h3]
    refine z_cne eX1_strike_31 rfl (fun c31 => ?_) (fun c31 => ?_)
    · refine z_kj eX1_strike_38 ?_
      refine z_ladd eX1_strike_39 ?_
      rw [show (0 : Int) = ((0 : Nat) : Int) from rfl, zl_addN (by omega)]
      refine z_pj eX1_strike_40 pX1_34 zs63 ?_
      refine ze_v eX1_strike_43 rfl ?_
      have el : left = 0 := by omega
      subst el
      refine ⟨?_, hg.up (by omega) (by omega) rfl, fun j hj => by rw [zup_off (by decide), hfr 64 (by decide)], Hx.xf (hg.up (by omega) (by omega) rfl) (by rw [zup_ne (by decide), hfr 63 (by decide)])⟩
      rw [zup_at, sF_0 _ _ _ _ hwi, if_neg c31]
    · refine z_ll3 eX1_strike_34 ?_
      refine z_goto eX1_strike_35 rfl ?_
      refine z_ladd eX1_strike_39 ?_
      rw [zl_addN (by omega)]
      refine z_pj eX1_strike_40 pX1_34 zs63 ?_
      refine ze_v eX1_strike_43 rfl ?_
      have el : left = 0 := by omega
      subst el
      refine ⟨?_, hg.up (by omega) (by omega) rfl, fun j hj => by rw [zup_off (by decide), hfr 64 (by decide)], Hx.xf (hg.up (by omega) (by omega) rfl) (by rw [zup_ne (by decide), hfr 63 (by decide)])⟩
      rw [zup_at, sF_0 _ _ _ _ hwi, if_pos c31]
theorem x_st (D : Nat → Int) (hb : dB D) (hst : D 2 < ((2 ^ nN D : Nat) : Int)) (a : Int) : ∀ (r s left : Nat) (w : Nat → Int) (wt acc : Nat) (h : zHp), s + r = nS D → HY D a h → wIs D h 64 w → (∀ j : Nat, s ≤ j → j < s + r → w j = (inN D j : Int)) → h 63 4 = (acc : Int) → sB D r s left wt acc → zCv mX1_strike (4 + r) [zA 63, zI s, zI left, zJ wt] h (fun h' => h' 63 4 = ((acc + sF D a r s left w wt : Nat) : Int) ∧ zXf h h' ∧ (∀ j : Nat, j < nS D → h' 64 j = h 64 j) ∧ HY D a h') := by
  intro r
  induction r with
  | zero => intro s left w wt acc h h1 h2 h3 h4 h5 h6; exact x_st0 D hb hst a s left w wt acc h h1 h2 h3 h4 h5 h6
  | succ r ih => intro s left w wt acc h h1 h2 h3 h4 h5 h6; exact x_stS D hb hst a r ih s left w wt acc h h1 h2 h3 h4 h5 h6
theorem r_sl0 (D : Nat → Int) (hb : dB D) (hst : D 2 < ((2 ^ nN D : Nat) : Int)) (a : Int) (s : Nat) (left : Nat) (w : Nat → Int) (wt acc : Nat) (h : zHp) (hs : s + 0 = nS D) (Hm : h 122 = D) (hw : wOk s h 124 w) (h4 : h 117 68 = (acc : Int)) (hB : sB D 0 s left wt acc) : zCv mX12_seldomFrom (7 + 0) [zA 117, zI s, zI left, zJ wt, zI a] h (fun h' => h' 117 68 = ((acc + sF D a 0 s left w wt : Nat) : Int) ∧ zMf h h' ∧ (∀ j : Nat, j < s → h' 124 j = h 124 j) ∧ h' 122 = D) := by
  refine z_enter [zA 117, zI s, zI left, zJ wt, zU, zI a, zU] (by decide +kernel) (Nat.le_of_ble_eq_true rfl) rfl (fun hra hrg => ?_)
  have h122 := Hm
  have hS := nS_eq hb
  have hS20 := nS_le hb
  have hb2 := hb.2.2.1
  have es : s = nS D := by omega
  have d1 : h 122 1 = (nS D : Int) := by rw [h122]; exact hS
  have hvb : vB D w := fun j hj => (hw j (by omega)).2
  have hvb2 : vB D (h 124) := vB_congr (fun j hj => (hw j (by omega)).1.symm) hvb
  refine z_il1 eX12_seldomFrom_0 ?_
  refine z_al0 eX12_seldomFrom_1 ?_
  refine z_ga eX12_seldomFrom_2 fX12_35 zs117 (t := 122) rfl ?_
  refine z_ki eX12_seldomFrom_5 ?_
  refine zr_iN eX12_seldomFrom_6 zs122 (j := 1) (by omega) (by omega) ?_
  refine z_cne eX12_seldomFrom_7 rfl (fun c7 => ?_) (fun c7 => ?_)
  · exfalso; omega
  · refine z_il2 eX12_seldomFrom_10 ?_
    refine z_ile eX12_seldomFrom_11 rfl (fun c11 => ?_) (fun c11 => ?_)
    · have hwt := sB_w hB (by omega)
      refine z_al0 eX12_seldomFrom_15 ?_
      refine zc_vv0 eX12_seldomFrom_16 lX12_348 tX12_sumVoters zs117 (by omega) (Nat.le_of_ble_eq_true rfl) (r_sumVoters h D (h 124) h122 rfl hb hvb2) ?_
      rintro _ rfl
      refine z_al0 eX12_seldomFrom_19 ?_
      refine z_al0 eX12_seldomFrom_20 ?_
      refine z_ga eX12_seldomFrom_21 fX12_35 zs117 (t := 122) rfl ?_
      refine z_ki eX12_seldomFrom_24 ?_
      refine zr_iN eX12_seldomFrom_25 zs122 (j := 2) (by omega) (by omega) ?_
      rw [show zup h 117 25 (sumN (h 124) (nS D)) 122 2 = (((D 2).toNat : Nat) : Int) by rw [zup_off (by decide), h122]; exact stN hb]
      refine zc_vi1 eX12_seldomFrom_26 lX12_323 tX12_winner zs117 (by omega) (Nat.le_of_ble_eq_true rfl) (r_winM (w := w) ⟨(zup_off (by decide)).trans h122, fun j hj => by rw [zup_off (by decide)]; exact (hw j (by omega)).1, by rw [zup_at]; exact sumN_congr _ (fun j hj => (hw j (by omega)).1)⟩ hb hvb _ (stL hb hst)) ?_
      rintro _ g ⟨rfl, hfr⟩ -
      have hg : zMf h g := (zMf.rf.up (by omega) (by omega) rfl).fr hfr (by decide) (fun _ => rfl)
      have HMg : g 122 = D := by rw [hfr 122 (by decide), zup_off (by decide)]; exact h122
      refine z_il5 eX12_seldomFrom_29 ?_
      refine z_cne eX12_seldomFrom_31 rfl (fun c31 => ?_) (fun c31 => ?_)
      · refine ze_v eX12_seldomFrom_44 rfl ?_
        refine ⟨?_, hg, fun j hj => by rw [hfr 124 (by decide), zup_off (by decide)], HMg⟩
        rw [hfr 117 (by decide), zup_ne (by decide), h4, sF, if_pos (by omega), if_neg c31]; rfl
      · refine z_al0 eX12_seldomFrom_34 ?_
        refine z_dup eX12_seldomFrom_35 zn2 ?_
        refine z_gj eX12_seldomFrom_36 fX12_441 zs117 ?_
        rw [hfr 117 (by decide), zup_ne (by decide), h4]
        refine z_ll3 eX12_seldomFrom_39 ?_
        refine z_ladd eX12_seldomFrom_40 ?_
        rw [zl_addN (by omega)]
        refine z_pj eX12_seldomFrom_41 pX12_441 zs117 ?_
        refine ze_v eX12_seldomFrom_44 rfl ?_
        refine ⟨?_, hg.up (by omega) (by omega) rfl, fun j hj => by rw [zup_off (by decide), hfr 124 (by decide), zup_off (by decide)], by rw [zup_off (by decide)]; exact HMg⟩
        rw [zup_at, sF, if_pos (by omega), if_pos c31]
    · refine ze_v eX12_seldomFrom_14 rfl ?_
      exact ⟨by rw [h4, sF, if_neg (by omega)]; rfl, zMf.rf, fun _ _ => rfl, Hm⟩
theorem r_sl_l (D : Nat → Int) (hb : dB D) (hst : D 2 < ((2 ^ nN D : Nat) : Int)) (a : Int) (r : Nat) (IH : ∀ (s left : Nat) (w : Nat → Int) (wt acc : Nat) (h : zHp), s + r = nS D → h 122 = D → wOk s h 124 w → h 117 68 = (acc : Int) → sB D r s left wt acc → zCv mX12_seldomFrom (7 + r) [zA 117, zI s, zI left, zJ wt, zI a] h (fun h' => h' 117 68 = ((acc + sF D a r s left w wt : Nat) : Int) ∧ zMf h h' ∧ (∀ j : Nat, j < s → h' 124 j = h 124 j) ∧ h' 122 = D)) (s : Nat) (left : Nat) (w : Nat → Int) (wt acc : Nat) (h : zHp) (hs : s + (r + 1) = nS D) (hB : sB D (r + 1) s left wt acc) : ∀ (q k : Nat) (g : zHp), k + q = min left (inN D s) + 1 → g 122 = D → wOk s g 124 w → zMf h g → (∀ j : Nat, j < s → g 124 j = h 124 j) → g 117 68 = ((acc + sumM (fun k => sF D a r (s + 1) (left - k) (fu w s ((inN D s : Int) - (k : Int))) (wt * chF (inN D s) k)) k : Nat) : Int) → zRW mX12_seldomFrom (7 + (r + 1)) (0, 0) 48 [zA 117, zI s, zI left, zJ wt, zU, zI a, zI k] [] 143 g (zqv (fun h' => h' 117 68 = ((acc + sF D a (r + 1) s left w wt : Nat) : Int) ∧ zMf h h' ∧ (∀ j : Nat, j < s → h' 124 j = h 124 j) ∧ h' 122 = D)) := by
  have hS20 := nS_le hb
  have hbs := hb.2.2.2.2.1 s (by omega)
  have hin : D (20 + s) = ((inN D s : Nat) : Int) := by unfold inN; omega
  have hl12 : left ≤ 12 := by obtain ⟨⟨_, _, _, _, _⟩, _⟩ := hB; omega
  intro q
  induction q using Nat.strongRecOn with
  | ind q ih =>
    intro k g hk Hg hw hxf hkeep h4
    have d20 : g 122 (20 + s) = ((inN D s : Nat) : Int) := by rw [Hg]; exact hin
    refine z_il6 eX12_seldomFrom_48 ?_
    refine z_il2 eX12_seldomFrom_50 ?_
    refine z_al0 eX12_seldomFrom_51 ?_
    refine z_ga eX12_seldomFrom_52 fX12_35 zs117 (t := 122) rfl ?_
    refine z_ki eX12_seldomFrom_55 ?_
    refine z_il1 eX12_seldomFrom_57 ?_
    refine z_iaddN eX12_seldomFrom_58 (by omega) (by omega) ?_
    refine zr_iN eX12_seldomFrom_59 zs122 (j := 20 + s) (by omega) (by omega) ?_
    rw [d20]
    refine z_min eX12_seldomFrom_60 lX12_461 (by omega) (Nat.le_of_ble_eq_true rfl) ?_
    refine z_cgt eX12_seldomFrom_63 rfl (fun c63 => ?_) (fun c63 => ?_)
    · refine ze_v eX12_seldomFrom_119 rfl ?_
      have e : k = min left (inN D s) + 1 := by omega
      subst e
      exact ⟨by rw [h4, sF], hxf, hkeep, Hg⟩
    · have hkn : k ≤ min left (inN D s) := by omega
      obtain ⟨hsb, hw1, hi100, -⟩ := sB_s (a := a) w hB hkn
      have hwn : wOk (s + 1) (zup g 124 s ((inN D s : Int) - (k : Int))) 124 (fu w s ((inN D s : Int) - (k : Int))) := fun j hj => by
        unfold fu
        by_cases e : j = s
        · subst e; rw [if_pos rfl, zup_at]; omega
        · rw [if_neg e, zup_ne (by omega)]; exact hw j (by omega)
      refine z_al0 eX12_seldomFrom_66 ?_
      refine z_ga eX12_seldomFrom_67 fX12_41 zs117 (t := 124) rfl ?_
      refine z_il1 eX12_seldomFrom_70 ?_
      refine z_al0 eX12_seldomFrom_71 ?_
      refine z_ga eX12_seldomFrom_72 fX12_35 zs117 (t := 122) rfl ?_
      refine z_ki eX12_seldomFrom_75 ?_
      refine z_il1 eX12_seldomFrom_77 ?_
      refine z_iaddN eX12_seldomFrom_78 (by omega) (by omega) ?_
      refine zr_iN eX12_seldomFrom_79 zs122 (j := 20 + s) (by omega) (by omega) ?_
      rw [d20]
      refine z_il6 eX12_seldomFrom_80 ?_
      refine z_isubN eX12_seldomFrom_82 (by omega) (by omega) ?_
      refine zs_iN eX12_seldomFrom_83 zs124 (j := s) (by omega) (by omega) ?_
      refine z_al0 eX12_seldomFrom_84 ?_
      refine z_il1 eX12_seldomFrom_85 ?_
      refine z_ki eX12_seldomFrom_86 ?_
      refine z_iaddN eX12_seldomFrom_87 (by omega) (by omega) ?_
      refine z_il2 eX12_seldomFrom_88 ?_
      refine z_il6 eX12_seldomFrom_89 ?_
      refine z_isubN eX12_seldomFrom_91 (by omega) (by omega) ?_
      refine z_ll3 eX12_seldomFrom_92 ?_
      refine z_al0 eX12_seldomFrom_93 ?_
      refine z_ga eX12_seldomFrom_94 fX12_35 zs117 (t := 122) rfl ?_
      refine z_ki eX12_seldomFrom_97 ?_
      refine z_il1 eX12_seldomFrom_99 ?_
      refine z_iaddN eX12_seldomFrom_100 (by omega) (by omega) ?_
      refine zr_iN eX12_seldomFrom_101 zs122 (j := 20 + s) (by omega) (by omega) ?_
      rw [zup_off (by decide), d20]
      refine z_il6 eX12_seldomFrom_102 ?_
      rw [show (s : Int) + 1 = ((s + 1 : Nat) : Int) by omega, show (left : Int) - (k : Int) = ((left - k : Nat) : Int) by omega]
      refine zc_sj2 eX12_seldomFrom_104 lX12_444 tX12_ways (by omega) (Nat.le_of_ble_eq_true rfl) (r_ways _ (inN D s) k (by omega) (by omega) (by omega)) ?_
      rintro _ _ ⟨rfl, rfl⟩ -
      refine z_lmul eX12_seldomFrom_107 ?_
      rw [zl_mulN (by omega)]
      refine z_il5 eX12_seldomFrom_108 ?_
      refine zc_vv4 eX12_seldomFrom_110 lX12_464 tX12_seldomFrom zs117 (by omega) (Nat.le_of_ble_eq_true rfl) (IH (s + 1) (left - k) (fu w s ((inN D s : Int) - (k : Int))) (wt * chF (inN D s) k) (acc + sumM (fun k => sF D a r (s + 1) (left - k) (fu w s ((inN D s : Int) - (k : Int))) (wt * chF (inN D s) k)) k) _ (by omega) ((zup_off (by decide)).trans Hg) hwn (by rw [zup_off (by decide)]; exact h4) hsb) ?_
      rintro g2 ⟨s4, hx2, hk2, Hg2⟩
      refine z_incN6 eX12_seldomFrom_113 zn0 (by omega) (by omega) ?_
      refine z_goto eX12_seldomFrom_116 rfl ?_
      refine ih (q - 1) (by omega) (k + 1) g2 (by omega) Hg2 (fun j hj => ?_) ((hxf.up (by omega) (by omega) rfl).tr hx2) (fun j hj => ?_) (by rw [s4, sumM, Nat.add_assoc])
      · rw [hk2 j (by omega), zup_ne (by omega)]; exact hw j hj
      · rw [hk2 j (by omega), zup_ne (by omega)]; exact hkeep j hj
theorem r_slS (D : Nat → Int) (hb : dB D) (hst : D 2 < ((2 ^ nN D : Nat) : Int)) (a : Int) (r : Nat) (IH : ∀ (s left : Nat) (w : Nat → Int) (wt acc : Nat) (h : zHp), s + r = nS D → h 122 = D → wOk s h 124 w → h 117 68 = (acc : Int) → sB D r s left wt acc → zCv mX12_seldomFrom (7 + r) [zA 117, zI s, zI left, zJ wt, zI a] h (fun h' => h' 117 68 = ((acc + sF D a r s left w wt : Nat) : Int) ∧ zMf h h' ∧ (∀ j : Nat, j < s → h' 124 j = h 124 j) ∧ h' 122 = D)) (s : Nat) (left : Nat) (w : Nat → Int) (wt acc : Nat) (h : zHp) (hs : s + (r + 1) = nS D) (Hm : h 122 = D) (hw : wOk s h 124 w) (h4 : h 117 68 = (acc : Int)) (hB : sB D (r + 1) s left wt acc) : zCv mX12_seldomFrom (7 + (r + 1)) [zA 117, zI s, zI left, zJ wt, zI a] h (fun h' => h' 117 68 = ((acc + sF D a (r + 1) s left w wt : Nat) : Int) ∧ zMf h h' ∧ (∀ j : Nat, j < s → h' 124 j = h 124 j) ∧ h' 122 = D) := by
  refine z_enter [zA 117, zI s, zI left, zJ wt, zU, zI a, zU] (by decide +kernel) (Nat.le_of_ble_eq_true rfl) rfl (fun hra hrg => ?_)
  have hS := nS_eq hb
  have d1 : h 122 1 = (nS D : Int) := by rw [Hm]; exact hS
  refine z_il1 eX12_seldomFrom_0 ?_
  refine z_al0 eX12_seldomFrom_1 ?_
  refine z_ga eX12_seldomFrom_2 fX12_35 zs117 (t := 122) rfl ?_
  refine z_ki eX12_seldomFrom_5 ?_
  refine zr_iN eX12_seldomFrom_6 zs122 (j := 1) (by omega) (by omega) ?_
  refine z_cne eX12_seldomFrom_7 rfl (fun c7 => ?_) (fun c7 => ?_)
  · refine z_ki eX12_seldomFrom_45 ?_
    refine z_is6 eX12_seldomFrom_46 zn0 ?_
    exact r_sl_l D hb hst a r IH s left w wt acc h hs hB (min left (inN D s) + 1) 0 h (by omega) Hm hw zMf.rf (fun _ _ => rfl) (by rw [h4]; rfl)
  · exfalso; omega
theorem r_sl (D : Nat → Int) (hb : dB D) (hst : D 2 < ((2 ^ nN D : Nat) : Int)) (a : Int) : ∀ (r s left : Nat) (w : Nat → Int) (wt acc : Nat) (h : zHp), s + r = nS D → h 122 = D → wOk s h 124 w → h 117 68 = (acc : Int) → sB D r s left wt acc → zCv mX12_seldomFrom (7 + r) [zA 117, zI s, zI left, zJ wt, zI a] h (fun h' => h' 117 68 = ((acc + sF D a r s left w wt : Nat) : Int) ∧ zMf h h' ∧ (∀ j : Nat, j < s → h' 124 j = h 124 j) ∧ h' 122 = D) := by
  intro r
  induction r with
  | zero => intro s left w wt acc h h1 h2 h3 h4 h5; exact r_sl0 D hb hst a s left w wt acc h h1 h2 h3 h4 h5
  | succ r ih => intro s left w wt acc h h1 h2 h3 h4 h5; exact r_slS D hb hst a r ih s left w wt acc h h1 h2 h3 h4 h5
