-- doubt: the recursions (written by wip/tools/specD2.py)
def sumM (f : Nat → Nat) : Nat → Nat
  | 0 => 0
  | n + 1 => sumM f n + f n
theorem sumM_le {f g : Nat → Nat} : ∀ n, (∀ k, k < n → f k ≤ g k) → sumM f n ≤ sumM g n := by
  intro n
  induction n with
  | zero => intro _; exact Nat.le_refl _
  | succ n ih => intro h; exact Nat.add_le_add (ih (fun k hk => h k (by omega))) (h n (by omega))
theorem sumM_mul (c : Nat) (f : Nat → Nat) : ∀ n, sumM (fun k => c * f k) n = c * sumM f n := by
  intro n
  induction n with
  | zero => rfl
  | succ n ih => rw [sumM, ih, sumM, Nat.mul_add]
theorem sumM_mono (f : Nat → Nat) {m n : Nat} (h : m ≤ n) : sumM f m ≤ sumM f n := by
  induction n with
  | zero => have : m = 0 := by omega
            rw [this]; exact Nat.le_refl _
  | succ n ih =>
    by_cases e : m = n + 1
    · rw [e]; exact Nat.le_refl _
    · rw [sumM]; exact Nat.le_trans (ih (by omega)) (Nat.le_add_right _ _)
def inN (D : Nat → Int) (s : Nat) : Nat := (D (20 + s)).toNat
def trm (n p k : Nat) : Nat := chF n k * p ^ k * (16 - p) ^ (n - k)
def rst (D : Nat → Int) : Nat → Nat → Nat
  | 0, _ => 0
  | r + 1, s => inN D s + rst D r (s + 1)
def dF (D : Nat → Int) (a : Int) (sh : Nat → Nat) : Nat → Nat → (Nat → Int) → Nat → Nat
  | 0, _, w, wt => if wt = 0 then 0 else if winW D w (D 2).toNat = a then wt else 0
  | r + 1, s, w, wt => if wt = 0 then 0 else sumM (fun k => dF D a sh r (s + 1) (fu w s k) (wt * trm (inN D s) (sh s) k)) (inN D s + 1)
theorem tr_all : (List.range 13).all (fun n => (List.range 17).all (fun p => decide (sumM (trm n p) (n + 1) = 16 ^ n) && (List.range 13).all (fun k => !(decide (k ≤ n)) || (decide (chF n k ≤ 16 ^ n) && decide (chF n k * p ^ k ≤ 32 ^ n))))) = true := by decide +kernel
theorem tr_at {n p : Nat} (hn : n ≤ 12) (hp : p ≤ 16) : sumM (trm n p) (n + 1) = 16 ^ n ∧ ∀ k, k ≤ n → chF n k ≤ 16 ^ n ∧ chF n k * p ^ k ≤ 32 ^ n := by
  have h := List.all_eq_true.mp (List.all_eq_true.mp tr_all n (List.mem_range.mpr (by omega))) p (List.mem_range.mpr (by omega))
  rw [Bool.and_eq_true] at h
  refine ⟨of_decide_eq_true h.1, fun k hk => ?_⟩
  have h2 := List.all_eq_true.mp h.2 k (List.mem_range.mpr (by omega))
  simp only [Bool.and_eq_true, Bool.or_eq_true, Bool.not_eq_true', decide_eq_true_eq, decide_eq_false_iff_not] at h2
  rcases h2 with z | z
  · exact absurd hk z
  · exact z
theorem trm_le {n p k : Nat} (hn : n ≤ 12) (hp : p ≤ 16) (hk : k ≤ n) : trm n p k ≤ 16 ^ n := by
  rw [← (tr_at hn hp).1]
  have h1 : sumM (trm n p) (k + 1) ≤ sumM (trm n p) (n + 1) := sumM_mono _ (by omega)
  rw [sumM] at h1
  omega
def okI (D : Nat → Int) (sh : Nat → Nat) : Prop := ∀ j, j < nS D → inN D j ≤ 12 ∧ sh j ≤ 16
theorem dF_b {D : Nat → Int} {a : Int} {sh : Nat → Nat} (hok : okI D sh) : ∀ r s w wt, s + r ≤ nS D → dF D a sh r s w wt ≤ wt * 16 ^ rst D r s := by
  intro r
  induction r with
  | zero => intro s w wt _; rw [dF, rst, Nat.pow_zero, Nat.mul_one]; split; omega; split; exact Nat.le_refl _; omega
  | succ r ih =>
    intro s w wt hs
    rw [dF]
    split
    · omega
    · have hk := hok s (by omega)
      refine Nat.le_trans (sumM_le _ (fun k hk2 => ih (s + 1) _ _ (by omega))) ?_
      rw [show (fun k => wt * trm (inN D s) (sh s) k * 16 ^ rst D r (s + 1)) = (fun k => (wt * 16 ^ rst D r (s + 1)) * trm (inN D s) (sh s) k) from funext (fun k => by rw [Nat.mul_assoc, Nat.mul_assoc, Nat.mul_comm (trm _ _ _)]), sumM_mul, (tr_at hk.1 hk.2).1, rst, Nat.mul_assoc, ← Nat.pow_add, Nat.add_comm]
      exact Nat.le_refl _
/-- what the parts up to k take of the room -/
theorem dF_p {D : Nat → Int} {a : Int} {sh : Nat → Nat} (hok : okI D sh) {r s wt : Nat} (hs : s + (r + 1) ≤ nS D) (w : Nat → Int) {k : Nat} (hk : k ≤ inN D s) : sumM (fun k => dF D a sh r (s + 1) (fu w s k) (wt * trm (inN D s) (sh s) k)) k + wt * trm (inN D s) (sh s) k * 16 ^ rst D r (s + 1) ≤ wt * 16 ^ rst D (r + 1) s := by
  have ho := hok s (by omega)
  have h1 := sumM_le (f := fun k => dF D a sh r (s + 1) (fu w s k) (wt * trm (inN D s) (sh s) k)) (g := fun k => (wt * 16 ^ rst D r (s + 1)) * trm (inN D s) (sh s) k) k (fun j hj => by
    have := dF_b (a := a) hok r (s + 1) (fu w s j) (wt * trm (inN D s) (sh s) j) (by omega)
    rw [Nat.mul_assoc, Nat.mul_comm (16 ^ rst D r (s + 1)), ← Nat.mul_assoc]
    exact this)
  rw [sumM_mul] at h1
  have h2 : sumM (trm (inN D s) (sh s)) (k + 1) ≤ 16 ^ inN D s := by
    rw [← (tr_at ho.1 ho.2).1]
    exact sumM_mono _ (by omega)
  rw [sumM] at h2
  have h3 := Nat.mul_le_mul_left (wt * 16 ^ rst D r (s + 1)) h2
  rw [Nat.mul_add] at h3
  rw [rst, Nat.pow_add, Nat.mul_comm (16 ^ inN D s), ← Nat.mul_assoc]
  have e : wt * trm (inN D s) (sh s) k * 16 ^ rst D r (s + 1) = wt * 16 ^ rst D r (s + 1) * trm (inN D s) (sh s) k := by rw [Nat.mul_assoc, Nat.mul_assoc, Nat.mul_comm (trm _ _ _)]
  omega
theorem wt_b {D : Nat → Int} {wt acc r s : Nat} (h : acc + wt * 16 ^ rst D (r + 1) s ≤ 281474976710656) : wt * 16 ^ inN D s ≤ 281474976710656 := by
  rw [rst, Nat.pow_add, ← Nat.mul_assoc] at h
  have := Nat.le_mul_of_pos_right (wt * 16 ^ inN D s) (Nat.pow_pos (n := rst D r (s + 1)) (show 0 < 16 by omega))
  omega
theorem wt_0 {D : Nat → Int} {wt acc r s : Nat} (h : acc + wt * 16 ^ rst D r s ≤ 281474976710656) : acc + wt ≤ 281474976710656 := by
  have := Nat.le_mul_of_pos_right wt (Nat.pow_pos (n := rst D r s) (show 0 < 16 by omega))
  omega
theorem p32 {n : Nat} (h : n ≤ 12) : 32 ^ n ≤ 1152921504606846976 := Nat.le_trans (Nat.pow_le_pow_right (by omega) h) (by decide)
theorem wt32 {wt n : Nat} (h : n ≤ 12) (h2 : wt * 16 ^ n ≤ 281474976710656) : wt * 32 ^ n ≤ 1152921504606846976 := by
  rw [show 32 = 16 * 2 from rfl, Nat.mul_pow, ← Nat.mul_assoc]
  exact Nat.le_trans (Nat.mul_le_mul h2 (Nat.pow_le_pow_right (n := 2) (by omega) h)) (by decide)
def HX (D : Nat → Int) (a : Int) (sh : Nat → Nat) (t : Nat) (h : zHp) : Prop := rHR h ∧ h 122 = D ∧ h 63 3 = a ∧ ∀ j : Nat, j < nS D → h (68 + 2 * t) j = (sh j : Int)
def HM (D : Nat → Int) (sh : Nat → Nat) (h : zHp) : Prop := h 122 = D ∧ ∀ j : Nat, j < nS D → h 140 j = (sh j : Int)
def wOk (s : Nat) (h : zHp) (c : Nat) (w : Nat → Int) : Prop := ∀ j : Nat, j < s → h c j = w j ∧ 0 ≤ w j ∧ w j ≤ 198
theorem HX.xf {D : Nat → Int} {a : Int} {sh : Nat → Nat} {t : Nat} (ht : t < 4) {h g : zHp} (H : HX D a sh t h) (F : zXf h g) (h3 : g 63 3 = h 63 3) : HX D a sh t g := ⟨H.1.xf F, (F.2.1 122 (by omega)).trans H.2.1, h3.trans H.2.2.1, fun j hj => by rw [F.1 1 (by omega) (by omega) (by simp) (68 + 2 * t) j (obc_tr ht j).2]; exact H.2.2.2 j hj⟩
theorem x_lv0 (D : Nat → Int) (hb : dB D) (hst : D 2 < ((2 ^ nN D : Nat) : Int)) (a : Int) (sh : Nat → Nat) (hok : okI D sh) (t : Nat) (ht : t < 4) (s : Nat) (w : Nat → Int) (wt acc : Nat) (h : zHp) (hs : s + 0 = nS D) (Hx : HX D a sh t h) (hw : wOk s h 64 w) (h4 : h 63 4 = (acc : Int)) (hB : acc + wt * 16 ^ rst D 0 s ≤ 281474976710656) : zCv mX1_letVote (4 + 0) [zA 63, zA (67 + 2 * t), zI s, zJ wt] h (fun h' => h' 63 4 = ((acc + dF D a sh 0 s w wt : Nat) : Int) ∧ zXf h h' ∧ (∀ j : Nat, j < s → h' 64 j = h 64 j) ∧ HX D a sh t h') := by
  refine z_enter [zA 63, zA (67 + 2 * t), zI s, zJ wt, zU, zU, zU, zU, zU, zU, zU] (by decide +kernel) (Nat.le_of_ble_eq_true rfl) rfl (fun hra hrg => ?_)
  obtain ⟨Hr, h122, h3, hsh⟩ := id Hx
  obtain ⟨⟨-, -, e0, e1, e7, ek, es, eo, hp⟩, hru⟩ : hallR h 4 D (h 123) ∧ ruleR h 24 D := by rw [← h122]; exact Hr
  have hS := nS_eq hb
  have hS20 := nS_le hb
  have hb2 := hb.2.2.1
  have hwt := wt_0 hB
  refine z_ll3 eX1_letVote_0 ?_
  refine z_kj eX1_letVote_1 ?_
  refine z_lcmp eX1_letVote_2 ?_
  refine z_ine eX1_letVote_3 rfl (fun c3 => ?_) (fun c3 => ?_)
  · rw [zcmp_ne] at c3
    refine z_il2 eX1_letVote_7 ?_
    refine z_al0 eX1_letVote_8 ?_
    refine z_ga eX1_letVote_9 fX1_22 zs63 (t := 4) rfl ?_
    refine z_gi eX1_letVote_12 fX1_57 zs4 ?_
    refine z_cge eX1_letVote_15 rfl (fun c15 => ?_) (fun c15 => ?_)
    · refine z_al0 eX1_letVote_24 ?_
      refine z_dup eX1_letVote_25 zn2 ?_
      refine z_gj eX1_letVote_26 fX1_34 zs63 ?_
      rw [h4]
      refine z_al0 eX1_letVote_29 ?_
      refine z_ga eX1_letVote_30 fX1_26 zs63 (t := 50) rfl ?_
      refine z_al0 eX1_letVote_33 ?_
      refine z_ga eX1_letVote_34 fX1_22 zs63 (t := 4) rfl ?_
      refine z_gi eX1_letVote_37 fX1_60 zs4 ?_
      refine z_al0 eX1_letVote_40 ?_
      refine z_ga eX1_letVote_41 fX1_9 zs63 (t := 64) rfl ?_
      rw [show h 4 1 = (((D 2).toNat : Nat) : Int) from e1.trans (stN hb)]
      refine zc_vi2 eX1_letVote_44 lX1_63 tX2_winnerOf zs50 (by omega) (Nat.le_of_ble_eq_true rfl) (x_winWD Hr h122 64 rfl (by decide) w (fun j hj => (hw j (by omega)).1) (fun j hj => (hw j (by omega)).2) _ (stL hb hst)) ?_
      rintro _ g ⟨rfl, hfr⟩ -
      have hg : zXf h g := zXf.rf.fr hfr (by decide) (fun _ => rfl)
      refine z_al0 eX1_letVote_47 ?_
      refine z_gi eX1_letVote_48 fX1_30 zs63 ?_
      rw [hfr 63 (by decide), h3]
      refine z_cne eX1_letVote_51 rfl (fun c51 => ?_) (fun c51 => ?_)
      · refine z_kj eX1_letVote_58 ?_
        refine z_ladd eX1_letVote_59 ?_
        rw [show (0 : Int) = ((0 : Nat) : Int) from rfl, zl_addN (by omega)]
        refine z_pj eX1_letVote_60 pX1_34 zs63 ?_
        refine ze_v eX1_letVote_63 rfl ?_
        refine ⟨?_, hg.up (by omega) (by omega) rfl, fun j hj => by rw [zup_off (by decide), hfr 64 (by decide)], Hx.xf ht (hg.up (by omega) (by omega) rfl) (by rw [zup_ne (by decide), hfr 63 (by decide)])⟩
        rw [zup_at, dF, if_neg (by omega), if_neg c51]
      · refine z_ll3 eX1_letVote_54 ?_
        refine z_goto eX1_letVote_55 rfl ?_
        refine z_ladd eX1_letVote_59 ?_
        rw [zl_addN (by omega)]
        refine z_pj eX1_letVote_60 pX1_34 zs63 ?_
        refine ze_v eX1_letVote_63 rfl ?_
        refine ⟨?_, hg.up (by omega) (by omega) rfl, fun j hj => by rw [zup_off (by decide), hfr 64 (by decide)], Hx.xf ht (hg.up (by omega) (by omega) rfl) (by rw [zup_ne (by decide), hfr 63 (by decide)])⟩
        rw [zup_at, dF, if_neg (by omega), if_pos c51]
    · exfalso; omega
  · rw [zcmp_ne] at c3
    refine ze_v eX1_letVote_6 rfl ?_
    exact ⟨by rw [h4, dF, if_pos (by omega)]; rfl, zXf.rf, fun _ _ => rfl, Hx⟩
theorem x_lv_l (D : Nat → Int) (hb : dB D) (hst : D 2 < ((2 ^ nN D : Nat) : Int)) (a : Int) (sh : Nat → Nat) (hok : okI D sh) (t : Nat) (ht : t < 4) (r : Nat) (IH : ∀ (s : Nat) (w : Nat → Int) (wt acc : Nat) (h : zHp), s + r = nS D → HX D a sh t h → wOk s h 64 w → h 63 4 = (acc : Int) → acc + wt * 16 ^ rst D r s ≤ 281474976710656 → zCv mX1_letVote (4 + r) [zA 63, zA (67 + 2 * t), zI s, zJ wt] h (fun h' => h' 63 4 = ((acc + dF D a sh r s w wt : Nat) : Int) ∧ zXf h h' ∧ (∀ j : Nat, j < s → h' 64 j = h 64 j) ∧ HX D a sh t h')) (s : Nat) (w : Nat → Int) (wt acc : Nat) (h : zHp) (hs : s + (r + 1) = nS D) (hB : acc + wt * 16 ^ rst D (r + 1) s ≤ 281474976710656) (hwt0 : ¬ wt = 0) : ∀ (q k : Nat) (g : zHp), k + q = inN D s + 1 → HX D a sh t g → wOk s g 64 w → zXf h g → (∀ j : Nat, j < s → g 64 j = h 64 j) → g 63 4 = ((acc + sumM (fun k => dF D a sh r (s + 1) (fu w s k) (wt * trm (inN D s) (sh s) k)) k : Nat) : Int) → zRW mX1_letVote (4 + (r + 1)) (0, 0) 86 [zA 63, zA (67 + 2 * t), zI s, zJ wt, zU, zI (inN D s : Nat), zJ (sh s : Nat), zU, zI k, zU, zU] [] 143 g (zqv (fun h' => h' 63 4 = ((acc + dF D a sh (r + 1) s w wt : Nat) : Int) ∧ zXf h h' ∧ (∀ j : Nat, j < s → h' 64 j = h 64 j) ∧ HX D a sh t h')) := by
  have hS20 := nS_le hb
  have ho := hok s (by omega)
  intro q
  induction q using Nat.strongRecOn with
  | ind q ih =>
    intro k g hk Hg hw hxf hkeep h4
    refine z_il8 eX1_letVote_86 ?_
    refine z_il5 eX1_letVote_88 ?_
    refine z_cgt eX1_letVote_90 rfl (fun c90 => ?_) (fun c90 => ?_)
    · refine ze_v eX1_letVote_151 rfl ?_
      have e : k = inN D s + 1 := by omega
      subst e
      exact ⟨by rw [h4, dF, if_neg hwt0], hxf, hkeep, Hg⟩
    · have hkn : k ≤ inN D s := by omega
      have hcp := (tr_at ho.1 ho.2).2 k hkn
      have h32 := p32 ho.1
      have htr := trm_le ho.1 ho.2 hkn
      have hwb := wt_b hB
      have h16 := Nat.pow_le_pow_right (n := 16) (by omega) ho.1
      have hwtr : wt * trm (inN D s) (sh s) k ≤ wt * 16 ^ inN D s := Nat.mul_le_mul_left _ htr
      have hpart := dF_p (a := a) hok (r := r) (s := s) (wt := wt) (by omega) w hkn
      refine z_al0 eX1_letVote_93 ?_
      refine z_ga eX1_letVote_94 fX1_9 zs63 (t := 64) rfl ?_
      refine z_il2 eX1_letVote_97 ?_
      refine z_il8 eX1_letVote_98 ?_
      refine zs_iN eX1_letVote_100 zs64 (j := s) (by omega) (by omega) ?_
      refine z_il5 eX1_letVote_101 ?_
      refine z_il8 eX1_letVote_103 ?_
      refine zc_sj2 eX1_letVote_105 lX1_78 tX1_choose (by omega) (Nat.le_of_ble_eq_true rfl) (x_choose _ (inN D s) k (by omega) (by omega) hkn) ?_
      rintro _ _ ⟨rfl, rfl⟩ -
      refine z_ll6 eX1_letVote_108 ?_
      refine z_il8 eX1_letVote_110 ?_
      refine zc_sj2 eX1_letVote_112 lX1_49 tX1_power (by omega) (Nat.le_of_ble_eq_true rfl) (x_power _ (sh s) k ho.2 (by omega)) ?_
      rintro _ _ ⟨rfl, rfl⟩ -
      refine z_lmul eX1_letVote_115 ?_
      rw [zl_mulN (by omega)]
      refine z_kj eX1_letVote_116 ?_
      refine z_ll6 eX1_letVote_119 ?_
      refine z_lsubN eX1_letVote_121 (by omega) (by omega) ?_
      rw [show (16 : Int) - ((sh s : Nat) : Int) = ((16 - sh s : Nat) : Int) by omega]
      refine z_il5 eX1_letVote_122 ?_
      refine z_il8 eX1_letVote_124 ?_
      refine z_isubN eX1_letVote_126 (by omega) (by omega) ?_
      rw [show ((inN D s : Nat) : Int) - (k : Int) = ((inN D s - k : Nat) : Int) by omega]
      refine zc_sj2 eX1_letVote_127 lX1_49 tX1_power (by omega) (Nat.le_of_ble_eq_true rfl) (x_power _ (16 - sh s) (inN D s - k) (by omega) (by omega)) ?_
      rintro _ _ ⟨rfl, rfl⟩ -
      refine z_lmul eX1_letVote_130 ?_
      rw [zl_mulN (by show trm (inN D s) (sh s) k < _; omega)]
      change zRW _ _ _ _ _ (zJ ((trm (inN D s) (sh s) k : Nat) : Int) :: _) _ _ _
      refine z_ls9 eX1_letVote_131 zn0 ?_
      refine z_al0 eX1_letVote_133 ?_
      refine z_al1 eX1_letVote_134 ?_
      refine z_il2 eX1_letVote_135 ?_
      refine z_ki eX1_letVote_136 ?_
      refine z_iaddN eX1_letVote_137 (by omega) (by omega) ?_
      refine z_ll3 eX1_letVote_138 ?_
      refine z_ll9 eX1_letVote_139 ?_
      refine z_lmul eX1_letVote_141 ?_
      rw [zl_mulN (by omega), show (s : Int) + 1 = ((s + 1 : Nat) : Int) by omega]
      refine zc_sv4 eX1_letVote_142 lX1_37 tX1_letVote (by omega) (Nat.le_of_ble_eq_true rfl) (IH (s + 1) (fu w s k) (wt * trm (inN D s) (sh s) k) (acc + sumM (fun k => dF D a sh r (s + 1) (fu w s k) (wt * trm (inN D s) (sh s) k)) k) (zup g 64 s k) (by omega) (Hg.xf ht (zXf.rf.up (by omega) (by omega) rfl) (by rw [zup_off (by decide)])) (fun j hj => by
  unfold fu
  by_cases e : j = s
  · subst e; rw [if_pos rfl, zup_at]; omega
  · rw [if_neg e, zup_ne (by omega)]; exact hw j (by omega)) (by rw [zup_off (by decide)]; exact h4) (by omega)) ?_
      rintro g2 ⟨s4, hx2, hk2, Hg2⟩
      refine z_incN8 eX1_letVote_145 zn9 (by omega) (by omega) ?_
      refine z_goto eX1_letVote_148 rfl ?_
      refine z_fg9 ?_
      refine ih (q - 1) (by omega) (k + 1) g2 (by omega) Hg2 (fun j hj => ?_) ((hxf.up (by omega) (by omega) rfl).tr hx2) (fun j hj => ?_) (by rw [s4, sumM, Nat.add_assoc])
      · rw [hk2 j (by omega), zup_ne (by omega)]; exact hw j hj
      · rw [hk2 j (by omega), zup_ne (by omega)]; exact hkeep j hj
theorem x_lvS (D : Nat → Int) (hb : dB D) (hst : D 2 < ((2 ^ nN D : Nat) : Int)) (a : Int) (sh : Nat → Nat) (hok : okI D sh) (t : Nat) (ht : t < 4) (r : Nat) (IH : ∀ (s : Nat) (w : Nat → Int) (wt acc : Nat) (h : zHp), s + r = nS D → HX D a sh t h → wOk s h 64 w → h 63 4 = (acc : Int) → acc + wt * 16 ^ rst D r s ≤ 281474976710656 → zCv mX1_letVote (4 + r) [zA 63, zA (67 + 2 * t), zI s, zJ wt] h (fun h' => h' 63 4 = ((acc + dF D a sh r s w wt : Nat) : Int) ∧ zXf h h' ∧ (∀ j : Nat, j < s → h' 64 j = h 64 j) ∧ HX D a sh t h')) (s : Nat) (w : Nat → Int) (wt acc : Nat) (h : zHp) (hs : s + (r + 1) = nS D) (Hx : HX D a sh t h) (hw : wOk s h 64 w) (h4 : h 63 4 = (acc : Int)) (hB : acc + wt * 16 ^ rst D (r + 1) s ≤ 281474976710656) : zCv mX1_letVote (4 + (r + 1)) [zA 63, zA (67 + 2 * t), zI s, zJ wt] h (fun h' => h' 63 4 = ((acc + dF D a sh (r + 1) s w wt : Nat) : Int) ∧ zXf h h' ∧ (∀ j : Nat, j < s → h' 64 j = h 64 j) ∧ HX D a sh t h') := by
  refine z_enter [zA 63, zA (67 + 2 * t), zI s, zJ wt, zU, zU, zU, zU, zU, zU, zU] (by decide +kernel) (Nat.le_of_ble_eq_true rfl) rfl (fun hra hrg => ?_)
  obtain ⟨Hr, h122, h3, hsh⟩ := id Hx
  obtain ⟨⟨-, -, e0, e1, e7, ek, es, eo, hp⟩, hru⟩ : hallR h 4 D (h 123) ∧ ruleR h 24 D := by rw [← h122]; exact Hr
  have hS := nS_eq hb
  have hS20 := nS_le hb
  have hb2 := hb.2.2.1
  have hin : D (20 + s) = ((inN D s : Nat) : Int) := by have := hb.2.2.2.2.1 s (by omega); unfold inN; omega
  refine z_ll3 eX1_letVote_0 ?_
  refine z_kj eX1_letVote_1 ?_
  refine z_lcmp eX1_letVote_2 ?_
  refine z_ine eX1_letVote_3 rfl (fun c3 => ?_) (fun c3 => ?_)
  · rw [zcmp_ne] at c3
    refine z_il2 eX1_letVote_7 ?_
    refine z_al0 eX1_letVote_8 ?_
    refine z_ga eX1_letVote_9 fX1_22 zs63 (t := 4) rfl ?_
    refine z_gi eX1_letVote_12 fX1_57 zs4 ?_
    refine z_cge eX1_letVote_15 rfl (fun c15 => ?_) (fun c15 => ?_)
    · exfalso; omega
    · refine z_il2 eX1_letVote_18 ?_
      refine z_ki eX1_letVote_19 ?_
      refine z_clt eX1_letVote_21 rfl (fun c21 => ?_) (fun c21 => ?_)
      · refine z_al0 eX1_letVote_64 ?_
        refine z_ga eX1_letVote_65 fX1_22 zs63 (t := 4) rfl ?_
        refine z_ga eX1_letVote_68 fX1_69 zs4 (t := 9) rfl ?_
        refine z_il2 eX1_letVote_71 ?_
        refine zr_iN eX1_letVote_72 zs9 (j := s) (by omega) (by omega) ?_
        rw [show h 9 s = ((inN D s : Nat) : Int) from ((es s (by omega)).1).trans hin]
        refine z_is5 eX1_letVote_73 zn9 ?_
        refine z_al1 eX1_letVote_75 ?_
        refine z_ga eX1_letVote_76 fX1_72 (zTr2 ht) (t := (68 + 2 * t)) (zTr3 ht) ?_
        refine z_il2 eX1_letVote_79 ?_
        refine zr_lN eX1_letVote_80 (zTr4 ht) (j := s) (by omega) (by omega) ?_
        rw [hsh s (by omega)]
        refine z_ls6 eX1_letVote_81 zn0 ?_
        refine z_ki eX1_letVote_83 ?_
        refine z_is8 eX1_letVote_84 zn9 ?_
        exact x_lv_l D hb hst a sh hok t ht r IH s w wt acc h hs hB (by omega) (inN D s + 1) 0 h (by omega) Hx hw zXf.rf (fun _ _ => rfl) (by rw [h4]; rfl)
      · exfalso; omega
  · rw [zcmp_ne] at c3
    refine ze_v eX1_letVote_6 rfl ?_
    exact ⟨by rw [h4, dF, if_pos (by omega)]; rfl, zXf.rf, fun _ _ => rfl, Hx⟩
theorem x_lv (D : Nat → Int) (hb : dB D) (hst : D 2 < ((2 ^ nN D : Nat) : Int)) (a : Int) (sh : Nat → Nat) (hok : okI D sh) (t : Nat) (ht : t < 4) : ∀ (r s : Nat) (w : Nat → Int) (wt acc : Nat) (h : zHp), s + r = nS D → HX D a sh t h → wOk s h 64 w → h 63 4 = (acc : Int) → acc + wt * 16 ^ rst D r s ≤ 281474976710656 → zCv mX1_letVote (4 + r) [zA 63, zA (67 + 2 * t), zI s, zJ wt] h (fun h' => h' 63 4 = ((acc + dF D a sh r s w wt : Nat) : Int) ∧ zXf h h' ∧ (∀ j : Nat, j < s → h' 64 j = h 64 j) ∧ HX D a sh t h') := by
  intro r
  induction r with
  | zero => intro s w wt acc h h1 h2 h3 h4 h5; exact x_lv0 D hb hst a sh hok t ht s w wt acc h h1 h2 h3 h4 h5
  | succ r ih => intro s w wt acc h h1 h2 h3 h4 h5; exact x_lvS D hb hst a sh hok t ht r ih s w wt acc h h1 h2 h3 h4 h5
theorem r_df0 (D : Nat → Int) (hb : dB D) (hst : D 2 < ((2 ^ nN D : Nat) : Int)) (a : Int) (sh : Nat → Nat) (hok : okI D sh) (s : Nat) (w : Nat → Int) (wt acc : Nat) (h : zHp) (hs : s + 0 = nS D) (Hm : HM D sh h) (hw : wOk s h 124 w) (h4 : h 117 68 = (acc : Int)) (hB : acc + wt * 16 ^ rst D 0 s ≤ 281474976710656) : zCv mX12_doubtFrom (7 + 0) [zA 117, zI s, zJ wt, zI a] h (fun h' => h' 117 68 = ((acc + dF D a sh 0 s w wt : Nat) : Int) ∧ zMf h h' ∧ (∀ j : Nat, j < s → h' 124 j = h 124 j) ∧ HM D sh h') := by
  refine z_enter [zA 117, zI s, zJ wt, zU, zI a, zU] (by decide +kernel) (Nat.le_of_ble_eq_true rfl) rfl (fun hra hrg => ?_)
  obtain ⟨h122, hsh⟩ := id Hm
  have hS := nS_eq hb
  have hS20 := nS_le hb
  have hb2 := hb.2.2.1
  have hwt := wt_0 hB
  have es : s = nS D := by omega
  have d1 : h 122 1 = (nS D : Int) := by rw [h122]; exact hS
  have hvb : vB D w := fun j hj => (hw j (by omega)).2
  have hvb2 : vB D (h 124) := vB_congr (fun j hj => (hw j (by omega)).1.symm) hvb
  refine z_ll2 eX12_doubtFrom_0 ?_
  refine z_kj eX12_doubtFrom_1 ?_
  refine z_lcmp eX12_doubtFrom_2 ?_
  refine z_ine eX12_doubtFrom_3 rfl (fun c3 => ?_) (fun c3 => ?_)
  · rw [zcmp_ne] at c3
    refine z_il1 eX12_doubtFrom_7 ?_
    refine z_al0 eX12_doubtFrom_8 ?_
    refine z_ga eX12_doubtFrom_9 fX12_35 zs117 (t := 122) rfl ?_
    refine z_ki eX12_doubtFrom_12 ?_
    refine zr_iN eX12_doubtFrom_13 zs122 (j := 1) (by omega) (by omega) ?_
    refine z_cne eX12_doubtFrom_14 rfl (fun c14 => ?_) (fun c14 => ?_)
    · exfalso; omega
    · refine z_al0 eX12_doubtFrom_17 ?_
      refine zc_vv0 eX12_doubtFrom_18 lX12_348 tX12_sumVoters zs117 (by omega) (Nat.le_of_ble_eq_true rfl) (r_sumVoters h D (h 124) h122 rfl hb hvb2) ?_
      rintro _ rfl
      refine z_al0 eX12_doubtFrom_21 ?_
      refine z_al0 eX12_doubtFrom_22 ?_
      refine z_ga eX12_doubtFrom_23 fX12_35 zs117 (t := 122) rfl ?_
      refine z_ki eX12_doubtFrom_26 ?_
      refine zr_iN eX12_doubtFrom_27 zs122 (j := 2) (by omega) (by omega) ?_
      rw [show zup h 117 25 (sumN (h 124) (nS D)) 122 2 = (((D 2).toNat : Nat) : Int) by rw [zup_off (by decide), h122]; exact stN hb]
      refine zc_vi1 eX12_doubtFrom_28 lX12_323 tX12_winner zs117 (by omega) (Nat.le_of_ble_eq_true rfl) (r_winM (w := w) ⟨(zup_off (by decide)).trans h122, fun j hj => by rw [zup_off (by decide)]; exact (hw j (by omega)).1, by rw [zup_at]; exact sumN_congr _ (fun j hj => (hw j (by omega)).1)⟩ hb hvb _ (stL hb hst)) ?_
      rintro _ g ⟨rfl, hfr⟩ -
      have hg : zMf h g := (zMf.rf.up (by omega) (by omega) rfl).fr hfr (by decide) (fun _ => rfl)
      have HMg : HM D sh g := ⟨by rw [hfr 122 (by decide), zup_off (by decide)]; exact h122, fun j hj => by rw [hfr 140 (by decide), zup_off (by decide)]; exact hsh j hj⟩
      refine z_il4 eX12_doubtFrom_31 ?_
      refine z_cne eX12_doubtFrom_33 rfl (fun c33 => ?_) (fun c33 => ?_)
      · refine ze_v eX12_doubtFrom_46 rfl ?_
        refine ⟨?_, hg, fun j hj => by rw [hfr 124 (by decide), zup_off (by decide)], HMg⟩
        rw [hfr 117 (by decide), zup_ne (by decide), h4, dF, if_neg (by omega), if_neg c33]; rfl
      · refine z_al0 eX12_doubtFrom_36 ?_
        refine z_dup eX12_doubtFrom_37 zn2 ?_
        refine z_gj eX12_doubtFrom_38 fX12_441 zs117 ?_
        rw [hfr 117 (by decide), zup_ne (by decide), h4]
        refine z_ll2 eX12_doubtFrom_41 ?_
        refine z_ladd eX12_doubtFrom_42 ?_
        rw [zl_addN (by omega)]
        refine z_pj eX12_doubtFrom_43 pX12_441 zs117 ?_
        refine ze_v eX12_doubtFrom_46 rfl ?_
        refine ⟨?_, hg.up (by omega) (by omega) rfl, fun j hj => by rw [zup_off (by decide), hfr 124 (by decide), zup_off (by decide)], ⟨by rw [zup_off (by decide)]; exact HMg.1, fun j hj => by rw [zup_off (by decide)]; exact HMg.2 j hj⟩⟩
        rw [zup_at, dF, if_neg (by omega), if_pos c33]
  · rw [zcmp_ne] at c3
    refine ze_v eX12_doubtFrom_6 rfl ?_
    exact ⟨by rw [h4, dF, if_pos (by omega)]; rfl, zMf.rf, fun _ _ => rfl, Hm⟩
theorem r_df_l (D : Nat → Int) (hb : dB D) (hst : D 2 < ((2 ^ nN D : Nat) : Int)) (a : Int) (sh : Nat → Nat) (hok : okI D sh) (r : Nat) (IH : ∀ (s : Nat) (w : Nat → Int) (wt acc : Nat) (h : zHp), s + r = nS D → HM D sh h → wOk s h 124 w → h 117 68 = (acc : Int) → acc + wt * 16 ^ rst D r s ≤ 281474976710656 → zCv mX12_doubtFrom (7 + r) [zA 117, zI s, zJ wt, zI a] h (fun h' => h' 117 68 = ((acc + dF D a sh r s w wt : Nat) : Int) ∧ zMf h h' ∧ (∀ j : Nat, j < s → h' 124 j = h 124 j) ∧ HM D sh h')) (s : Nat) (w : Nat → Int) (wt acc : Nat) (h : zHp) (hs : s + (r + 1) = nS D) (hB : acc + wt * 16 ^ rst D (r + 1) s ≤ 281474976710656) (hwt0 : ¬ wt = 0) : ∀ (q k : Nat) (g : zHp), k + q = inN D s + 1 → HM D sh g → wOk s g 124 w → zMf h g → (∀ j : Nat, j < s → g 124 j = h 124 j) → g 117 68 = ((acc + sumM (fun k => dF D a sh r (s + 1) (fu w s k) (wt * trm (inN D s) (sh s) k)) k : Nat) : Int) → zRW mX12_doubtFrom (7 + (r + 1)) (0, 0) 50 [zA 117, zI s, zJ wt, zU, zI a, zI k] [] 143 g (zqv (fun h' => h' 117 68 = ((acc + dF D a sh (r + 1) s w wt : Nat) : Int) ∧ zMf h h' ∧ (∀ j : Nat, j < s → h' 124 j = h 124 j) ∧ HM D sh h')) := by
  have hS20 := nS_le hb
  have ho := hok s (by omega)
  have hin : D (20 + s) = ((inN D s : Nat) : Int) := by have := hb.2.2.2.2.1 s (by omega); unfold inN; omega
  intro q
  induction q using Nat.strongRecOn with
  | ind q ih =>
    intro k g hk Hg hw hxf hkeep h4
    have d20 : g 122 (20 + s) = ((inN D s : Nat) : Int) := by rw [Hg.1]; exact hin
    refine z_il5 eX12_doubtFrom_50 ?_
    refine z_al0 eX12_doubtFrom_52 ?_
    refine z_ga eX12_doubtFrom_53 fX12_35 zs117 (t := 122) rfl ?_
    refine z_ki eX12_doubtFrom_56 ?_
    refine z_il1 eX12_doubtFrom_58 ?_
    refine z_iaddN eX12_doubtFrom_59 (by omega) (by omega) ?_
    refine zr_iN eX12_doubtFrom_60 zs122 (j := 20 + s) (by omega) (by omega) ?_
    rw [d20]
    refine z_cgt eX12_doubtFrom_61 rfl (fun c61 => ?_) (fun c61 => ?_)
    · refine ze_v eX12_doubtFrom_141 rfl ?_
      have e : k = inN D s + 1 := by omega
      subst e
      exact ⟨by rw [h4, dF, if_neg hwt0], hxf, hkeep, Hg⟩
    · have hkn : k ≤ inN D s := by omega
      have hcp := (tr_at ho.1 ho.2).2 k hkn
      have htr := trm_le ho.1 ho.2 hkn
      have hwb := wt_b hB
      have hw32 := wt32 ho.1 hwb
      have hm1 : wt * chF (inN D s) k ≤ wt * 16 ^ inN D s := Nat.mul_le_mul_left _ hcp.1
      have hm2 : wt * chF (inN D s) k * sh s ^ k ≤ wt * 32 ^ inN D s := by rw [Nat.mul_assoc]; exact Nat.mul_le_mul_left _ hcp.2
      have hm3 : wt * chF (inN D s) k * sh s ^ k * (16 - sh s) ^ (inN D s - k) = wt * trm (inN D s) (sh s) k := by unfold trm; rw [Nat.mul_assoc, Nat.mul_assoc, Nat.mul_assoc]
      have hwtr : wt * trm (inN D s) (sh s) k ≤ wt * 16 ^ inN D s := Nat.mul_le_mul_left _ htr
      have hpart := dF_p (a := a) hok (r := r) (s := s) (wt := wt) (by omega) w hkn
      have z140 : ∀ j : Nat, j < nS D → zup g 124 s (k : Int) 140 j = (sh j : Int) := fun j hj => by rw [zup_off (by decide)]; exact Hg.2 j hj
      have z20 : zup g 124 s (k : Int) 122 (20 + s) = ((inN D s : Nat) : Int) := by rw [zup_off (by decide)]; exact d20
      refine z_al0 eX12_doubtFrom_64 ?_
      refine z_ga eX12_doubtFrom_65 fX12_41 zs117 (t := 124) rfl ?_
      refine z_il1 eX12_doubtFrom_68 ?_
      refine z_il5 eX12_doubtFrom_69 ?_
      refine zs_iN eX12_doubtFrom_71 zs124 (j := s) (by omega) (by omega) ?_
      refine z_al0 eX12_doubtFrom_72 ?_
      refine z_il1 eX12_doubtFrom_73 ?_
      refine z_ki eX12_doubtFrom_74 ?_
      refine z_iaddN eX12_doubtFrom_75 (by omega) (by omega) ?_
      refine z_ll2 eX12_doubtFrom_76 ?_
      refine z_al0 eX12_doubtFrom_77 ?_
      refine z_ga eX12_doubtFrom_78 fX12_35 zs117 (t := 122) rfl ?_
      refine z_ki eX12_doubtFrom_81 ?_
      refine z_il1 eX12_doubtFrom_83 ?_
      refine z_iaddN eX12_doubtFrom_84 (by omega) (by omega) ?_
      refine zr_iN eX12_doubtFrom_85 zs122 (j := 20 + s) (by omega) (by omega) ?_
      rw [z20]
      refine z_il5 eX12_doubtFrom_86 ?_
      refine zc_sj2 eX12_doubtFrom_88 lX12_444 tX12_ways (by omega) (Nat.le_of_ble_eq_true rfl) (r_ways _ (inN D s) k (by omega) (by omega) hkn) ?_
      rintro _ _ ⟨rfl, rfl⟩ -
      refine z_lmul eX12_doubtFrom_91 ?_
      rw [zl_mulN (by omega)]
      refine z_al0 eX12_doubtFrom_92 ?_
      refine z_ga eX12_doubtFrom_93 fX12_92 zs117 (t := 140) rfl ?_
      refine z_il1 eX12_doubtFrom_96 ?_
      refine zr_lN eX12_doubtFrom_97 zs140 (j := s) (by omega) (by omega) ?_
      rw [z140 s (by omega)]
      refine z_il5 eX12_doubtFrom_98 ?_
      refine zc_sj2 eX12_doubtFrom_100 lX12_447 tX12_power (by omega) (Nat.le_of_ble_eq_true rfl) (r_power _ (sh s) k ho.2 (by omega)) ?_
      rintro _ _ ⟨rfl, rfl⟩ -
      refine z_lmul eX12_doubtFrom_103 ?_
      rw [zl_mulN (by omega)]
      refine z_kj eX12_doubtFrom_104 ?_
      refine z_al0 eX12_doubtFrom_107 ?_
      refine z_ga eX12_doubtFrom_108 fX12_92 zs117 (t := 140) rfl ?_
      refine z_il1 eX12_doubtFrom_111 ?_
      refine zr_lN eX12_doubtFrom_112 zs140 (j := s) (by omega) (by omega) ?_
      rw [z140 s (by omega)]
      refine z_lsubN eX12_doubtFrom_113 (by omega) (by omega) ?_
      rw [show (16 : Int) - ((sh s : Nat) : Int) = ((16 - sh s : Nat) : Int) by omega]
      refine z_al0 eX12_doubtFrom_114 ?_
      refine z_ga eX12_doubtFrom_115 fX12_35 zs117 (t := 122) rfl ?_
      refine z_ki eX12_doubtFrom_118 ?_
      refine z_il1 eX12_doubtFrom_120 ?_
      refine z_iaddN eX12_doubtFrom_121 (by omega) (by omega) ?_
      refine zr_iN eX12_doubtFrom_122 zs122 (j := 20 + s) (by omega) (by omega) ?_
      rw [z20]
      refine z_il5 eX12_doubtFrom_123 ?_
      refine z_isubN eX12_doubtFrom_125 (by omega) (by omega) ?_
      rw [show ((inN D s : Nat) : Int) - (k : Int) = ((inN D s - k : Nat) : Int) by omega]
      refine zc_sj2 eX12_doubtFrom_126 lX12_447 tX12_power (by omega) (Nat.le_of_ble_eq_true rfl) (r_power _ (16 - sh s) (inN D s - k) (by omega) (by omega)) ?_
      rintro _ _ ⟨rfl, rfl⟩ -
      refine z_lmul eX12_doubtFrom_129 ?_
      rw [zl_mulN (by omega), hm3]
      refine z_il4 eX12_doubtFrom_130 ?_
      rw [show (s : Int) + 1 = ((s + 1 : Nat) : Int) by omega]
      refine zc_vv3 eX12_doubtFrom_132 lX12_453 tX12_doubtFrom zs117 (by omega) (Nat.le_of_ble_eq_true rfl) (IH (s + 1) (fu w s k) (wt * trm (inN D s) (sh s) k) (acc + sumM (fun k => dF D a sh r (s + 1) (fu w s k) (wt * trm (inN D s) (sh s) k)) k) (zup g 124 s k) (by omega) ⟨by rw [zup_off (by decide)]; exact Hg.1, z140⟩ (fun j hj => by
  unfold fu
  by_cases e : j = s
  · subst e; rw [if_pos rfl, zup_at]; omega
  · rw [if_neg e, zup_ne (by omega)]; exact hw j (by omega)) (by rw [zup_off (by decide)]; exact h4) (by omega)) ?_
      rintro g2 ⟨s4, hx2, hk2, Hg2⟩
      refine z_incN5 eX12_doubtFrom_135 zn0 (by omega) (by omega) ?_
      refine z_goto eX12_doubtFrom_138 rfl ?_
      refine ih (q - 1) (by omega) (k + 1) g2 (by omega) Hg2 (fun j hj => ?_) ((hxf.up (by omega) (by omega) rfl).tr hx2) (fun j hj => ?_) (by rw [s4, sumM, Nat.add_assoc])
      · rw [hk2 j (by omega), zup_ne (by omega)]; exact hw j hj
      · rw [hk2 j (by omega), zup_ne (by omega)]; exact hkeep j hj
theorem r_dfS (D : Nat → Int) (hb : dB D) (hst : D 2 < ((2 ^ nN D : Nat) : Int)) (a : Int) (sh : Nat → Nat) (hok : okI D sh) (r : Nat) (IH : ∀ (s : Nat) (w : Nat → Int) (wt acc : Nat) (h : zHp), s + r = nS D → HM D sh h → wOk s h 124 w → h 117 68 = (acc : Int) → acc + wt * 16 ^ rst D r s ≤ 281474976710656 → zCv mX12_doubtFrom (7 + r) [zA 117, zI s, zJ wt, zI a] h (fun h' => h' 117 68 = ((acc + dF D a sh r s w wt : Nat) : Int) ∧ zMf h h' ∧ (∀ j : Nat, j < s → h' 124 j = h 124 j) ∧ HM D sh h')) (s : Nat) (w : Nat → Int) (wt acc : Nat) (h : zHp) (hs : s + (r + 1) = nS D) (Hm : HM D sh h) (hw : wOk s h 124 w) (h4 : h 117 68 = (acc : Int)) (hB : acc + wt * 16 ^ rst D (r + 1) s ≤ 281474976710656) : zCv mX12_doubtFrom (7 + (r + 1)) [zA 117, zI s, zJ wt, zI a] h (fun h' => h' 117 68 = ((acc + dF D a sh (r + 1) s w wt : Nat) : Int) ∧ zMf h h' ∧ (∀ j : Nat, j < s → h' 124 j = h 124 j) ∧ HM D sh h') := by
  refine z_enter [zA 117, zI s, zJ wt, zU, zI a, zU] (by decide +kernel) (Nat.le_of_ble_eq_true rfl) rfl (fun hra hrg => ?_)
  have hS := nS_eq hb
  have d1 : h 122 1 = (nS D : Int) := by rw [Hm.1]; exact hS
  refine z_ll2 eX12_doubtFrom_0 ?_
  refine z_kj eX12_doubtFrom_1 ?_
  refine z_lcmp eX12_doubtFrom_2 ?_
  refine z_ine eX12_doubtFrom_3 rfl (fun c3 => ?_) (fun c3 => ?_)
  · rw [zcmp_ne] at c3
    refine z_il1 eX12_doubtFrom_7 ?_
    refine z_al0 eX12_doubtFrom_8 ?_
    refine z_ga eX12_doubtFrom_9 fX12_35 zs117 (t := 122) rfl ?_
    refine z_ki eX12_doubtFrom_12 ?_
    refine zr_iN eX12_doubtFrom_13 zs122 (j := 1) (by omega) (by omega) ?_
    refine z_cne eX12_doubtFrom_14 rfl (fun c14 => ?_) (fun c14 => ?_)
    · refine z_ki eX12_doubtFrom_47 ?_
      refine z_is5 eX12_doubtFrom_48 zn0 ?_
      exact r_df_l D hb hst a sh hok r IH s w wt acc h hs hB (by omega) (inN D s + 1) 0 h (by omega) Hm hw zMf.rf (fun _ _ => rfl) (by rw [h4]; rfl)
    · exfalso; omega
  · rw [zcmp_ne] at c3
    refine ze_v eX12_doubtFrom_6 rfl ?_
    exact ⟨by rw [h4, dF, if_pos (by omega)]; rfl, zMf.rf, fun _ _ => rfl, Hm⟩
theorem r_df (D : Nat → Int) (hb : dB D) (hst : D 2 < ((2 ^ nN D : Nat) : Int)) (a : Int) (sh : Nat → Nat) (hok : okI D sh) : ∀ (r s : Nat) (w : Nat → Int) (wt acc : Nat) (h : zHp), s + r = nS D → HM D sh h → wOk s h 124 w → h 117 68 = (acc : Int) → acc + wt * 16 ^ rst D r s ≤ 281474976710656 → zCv mX12_doubtFrom (7 + r) [zA 117, zI s, zJ wt, zI a] h (fun h' => h' 117 68 = ((acc + dF D a sh r s w wt : Nat) : Int) ∧ zMf h h' ∧ (∀ j : Nat, j < s → h' 124 j = h 124 j) ∧ HM D sh h') := by
  intro r
  induction r with
  | zero => intro s w wt acc h h1 h2 h3 h4 h5; exact r_df0 D hb hst a sh hok s w wt acc h h1 h2 h3 h4 h5
  | succ r ih => intro s w wt acc h h1 h2 h3 h4 h5; exact r_dfS D hb hst a sh hok r ih s w wt acc h h1 h2 h3 h4 h5
