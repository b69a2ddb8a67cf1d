-- acts: what must come of a text; the reference's words (written by wip/tools/specK0.py)
theorem kC_a : kC 4 = 16052 ∧ kC 13 = 5572 ∧ kC 14 = 688 ∧ kC 15 = 147182 ∧ kC 16 = 302 ∧ kC 17 = 20452804 ∧ kC 18 = 409072 ∧ kC 19 = 762030 ∧ kC 20 = 22499628 ∧ kC 21 = 14836 := by decide +kernel
abbrev aP : Type := Nat × Nat × Nat × List (Nat × Nat) × Int × zHp
abbrev Ra : Type := (Int × Nat) ⊕ (Nat × zHp)
abbrev Rs : Type := (Int × Nat) ⊕ aP
/-- the kind of the step whose word stands here, or -1 -/
def kdS (B : Nat → Int) (L q : Nat) : Int := if isK B L q 14 then 0 else if isK B L q 15 then 1 else if isK B L q 16 then 2 else if isK B L q 4 then 3 else if isK B L q 17 then 4 else if isK B L q 18 then 5 else if isK B L q 19 then 6 else if isK B L q 20 then 7 else -1
def acQ (B : Nat → Int) (L q : Nat) : Prop := tkK B L q = 1 ∧ ¬ tkW B L q = 0 ∧ kdS B L q = -1 ∧ ¬ tkW B L q = kC 21 ∧ ¬ tkW B L q = kC 13
noncomputable def wh1 (B : Nat → Int) (L j q : Nat) (nt : Int) (A : zHp) : Ra := @ite _ (acQ B L q) (Classical.propDecidable _) (.inr (tkE B L q, zup (zup A 127 j nt) 134 j (tkW B L q))) (.inl (fK (tkK B L q) 2, tkA B L q))
noncomputable def whF (B : Nat → Int) (L j q : Nat) (may : Int) (A : zHp) : Ra := if may = 1 ∧ isK B L q 21 then wh1 B L j (tkE B L q) 1 A else wh1 B L j q 0 A
def nuF1 (B : Nat → Int) (L j q : Nat) (lo hi : Int) (A : zHp) : Ra := if nuK B L q lo hi = 0 then .inr (tkE B L q, zup A 127 j (tkV B L q)) else .inl (nuK B L q lo hi, tkA B L q)
def moF (B : Nat → Int) (L j q : Nat) (A : zHp) : Ra := if nuK B L q 0 19 = 0 then (if nuK B L (tkE B L q) 0 99 = 0 then .inr (tkE B L (tkE B L q), zup (zup A 127 j (tkV B L q)) 128 j (tkV B L (tkE B L q))) else .inl (nuK B L (tkE B L q) 0 99, tkA B L (tkE B L q))) else .inl (nuK B L q 0 19, tkA B L q)
noncomputable def arF (B : Nat → Int) (L j q : Nat) (kd : Int) (A : zHp) : Ra := if kd = 2 ∨ kd = 3 then moF B L j q A else if kd = 4 then nuF1 B L j q 0 999 A else if kd = 5 then nuF1 B L j q 1 9 A else whF B L j q (if 6 ≤ kd then 1 else 0) A
/-- a step is read, with its sign -/
noncomputable def hdF (B : Nat → Int) (L : Nat) (kd : Int) (s n : Nat) (stk : List (Nat × Nat)) (sp : Int) (R : Ra) : Rs := match R with
  | .inl e => .inl e
  | .inr r => if sgK B L r.1 = 0 then .inr (tkE B L r.1, s + 1, n + 1, if 5 ≤ kd then (n, s) :: stk else stk, if kd = 4 then 1 else sp, if 5 ≤ kd then r.2 else zup r.2 129 s ((s : Int) + 1)) else .inl (sgK B L r.1, tkA B L r.1)
noncomputable def seF (B : Nat → Int) (L q s n : Nat) (stk : List (Nat × Nat)) (sp : Int) (A : zHp) : Rs := if kdS B L q = -1 then .inl (fK (tkK B L q) 2, tkA B L q) else if 5 ≤ kdS B L q ∧ stk.length = 3 then .inl (5, tkA B L q) else if s = 40 then .inl (6, tkA B L q) else hdF B L (kdS B L q) s n stk sp (arF B L s (tkE B L q) (kdS B L q) (zup A 126 s (kdS B L q)))
noncomputable def enF (B : Nat → Int) (L q s n : Nat) (stk : List (Nat × Nat)) (sp : Int) (A : zHp) : Rs := match stk with
  | [] => .inl (fK (tkK B L q) 2, tkA B L q)
  | p :: r => if sgK B L (tkE B L q) = 0 then .inr (tkE B L (tkE B L q), s, n + 1, r, sp, zup A 129 p.2 (s : Int)) else .inl (sgK B L (tkE B L q), tkA B L (tkE B L q))
noncomputable def itF (B : Nat → Int) (L : Nat) : Nat → aP → Rs
  | 0, _ => .inl (1, 0)
  | f + 1, (q, s, n, stk, sp, A) => if tkK B L q = 0 then (if stk = [] then .inr (q, s, n, stk, sp, A) else .inl (fK (tkK B L q) 2, tkA B L q)) else match (if isK B L q 13 then enF B L q s n stk sp A else seF B L q s n stk sp A) with
    | .inl e => .inl e
    | .inr t => itF B L f t
theorem kdS_b {B : Nat → Int} {L q : Nat} : -1 ≤ kdS B L q ∧ kdS B L q ≤ 7 ∧ (¬ kdS B L q = -1 → tkK B L q = 1 ∧ ¬ isK B L q 13) := by
  have kv := kC_a
  unfold kdS
  by_cases h14 : isK B L q 14
  · rw [if_pos h14]; exact ⟨by omega, by omega, fun _ => ⟨h14.1, fun z => by have := z.2; have := h14.2; omega⟩⟩
  rw [if_neg h14]
  by_cases h15 : isK B L q 15
  · rw [if_pos h15]; exact ⟨by omega, by omega, fun _ => ⟨h15.1, fun z => by have := z.2; have := h15.2; omega⟩⟩
  rw [if_neg h15]
  by_cases h16 : isK B L q 16
  · rw [if_pos h16]; exact ⟨by omega, by omega, fun _ => ⟨h16.1, fun z => by have := z.2; have := h16.2; omega⟩⟩
  rw [if_neg h16]
  by_cases h4 : isK B L q 4
  · rw [if_pos h4]; exact ⟨by omega, by omega, fun _ => ⟨h4.1, fun z => by have := z.2; have := h4.2; omega⟩⟩
  rw [if_neg h4]
  by_cases h17 : isK B L q 17
  · rw [if_pos h17]; exact ⟨by omega, by omega, fun _ => ⟨h17.1, fun z => by have := z.2; have := h17.2; omega⟩⟩
  rw [if_neg h17]
  by_cases h18 : isK B L q 18
  · rw [if_pos h18]; exact ⟨by omega, by omega, fun _ => ⟨h18.1, fun z => by have := z.2; have := h18.2; omega⟩⟩
  rw [if_neg h18]
  by_cases h19 : isK B L q 19
  · rw [if_pos h19]; exact ⟨by omega, by omega, fun _ => ⟨h19.1, fun z => by have := z.2; have := h19.2; omega⟩⟩
  rw [if_neg h19]
  by_cases h20 : isK B L q 20
  · rw [if_pos h20]; exact ⟨by omega, by omega, fun _ => ⟨h20.1, fun z => by have := z.2; have := h20.2; omega⟩⟩
  rw [if_neg h20]
  exact ⟨by omega, by omega, fun z => absurd rfl z⟩
theorem Ra_b {B : Nat → Int} {L j q : Nat} {kd : Int} {A : zHp} (hq : q ≤ L) {r : Nat × zHp} (h : arF B L j q kd A = .inr r) : q ≤ r.1 ∧ r.1 ≤ L := by
  have kb := tk_b (B := B) hq
  have kb1 := tk_b (B := B) kb.2.2.1
  have w1 : ∀ q2 nt, q ≤ q2 → q2 ≤ L → wh1 B L j q2 nt A = .inr r → q ≤ r.1 ∧ r.1 ≤ L := fun q2 nt h1 h2 e => by
    unfold wh1 at e
    have k2 := tk_b (B := B) h2
    split at e
    · injection e with e2; rw [← e2]; exact ⟨by show q ≤ tkE B L q2; omega, k2.2.2.1⟩
    · cases e
  unfold arF at h
  split at h
  · unfold moF at h
    split at h
    · split at h
      · injection h with e2; rw [← e2]; exact ⟨by show q ≤ tkE B L (tkE B L q); omega, kb1.2.2.1⟩
      · cases h
    · cases h
  · split at h
    · unfold nuF1 at h
      split at h
      · injection h with e2; rw [← e2]; exact ⟨by show q ≤ tkE B L q; omega, kb.2.2.1⟩
      · cases h
    · split at h
      · unfold nuF1 at h
        split at h
        · injection h with e2; rw [← e2]; exact ⟨by show q ≤ tkE B L q; omega, kb.2.2.1⟩
        · cases h
      · unfold whF at h
        generalize (if 6 ≤ kd then (1 : Int) else 0) = m at h
        by_cases z : m = 1 ∧ isK B L q 21
        · rw [if_pos z] at h; exact w1 _ _ (by omega) kb.2.2.1 h
        · rw [if_neg z] at h; exact w1 _ _ (by omega) hq h
/-- each step goes on in the text -/
theorem it_go {B : Nat → Int} {L q s n : Nat} {stk : List (Nat × Nat)} {sp : Int} {A : zHp} (hq : q ≤ L) {t : aP} (h : (if isK B L q 13 then enF B L q s n stk sp A else seF B L q s n stk sp A) = .inr t) : q < t.1 ∧ t.1 ≤ L := by
  have kb := tk_b (B := B) hq
  have kb1 := tk_b (B := B) kb.2.2.1
  split at h
  · next c =>
    have k4 := kb.2.2.2.1 (by omega)
    cases stk with
    | nil => unfold enF at h; cases h
    | cons p r =>
      have h2 : (if sgK B L (tkE B L q) = 0 then .inr (tkE B L (tkE B L q), s, n + 1, r, sp, zup A 129 p.2 (s : Int)) else .inl (sgK B L (tkE B L q), tkA B L (tkE B L q)) : Rs) = .inr t := h
      clear h
      have h := h2
      by_cases z : sgK B L (tkE B L q) = 0
      · rw [if_pos z] at h; injection h with e; rw [← e]; exact ⟨by show q < tkE B L (tkE B L q); omega, kb1.2.2.1⟩
      · rw [if_neg z] at h; cases h
  · unfold seF at h
    split at h
    · cases h
    · next c =>
      have k1 := kdS_b.2.2 c
      have k4 := kb.2.2.2.1 (by omega)
      split at h
      · cases h
      · split at h
        · cases h
        · generalize eR : arF B L s (tkE B L q) (kdS B L q) (zup A 126 s (kdS B L q)) = R at h
          cases R with
          | inl e => unfold hdF at h; cases h
          | inr r =>
            have rb := Ra_b kb.2.2.1 eR
            have kr := tk_b (B := B) rb.2
            unfold hdF at h
            by_cases z : sgK B L r.1 = 0
            · have h2 : (if sgK B L r.1 = 0 then _ else _ : Rs) = .inr t := h
              rw [if_pos z] at h2; injection h2 with e; rw [← e]; exact ⟨by show q < tkE B L r.1; omega, kr.2.2.1⟩
            · have h2 : (if sgK B L r.1 = 0 then _ else _ : Rs) = .inr t := h
              rw [if_neg z] at h2; cases h2
theorem it_f {B : Nat → Int} {L : Nat} : ∀ (f f2 : Nat) (t : aP), t.1 ≤ L → L + 1 ≤ t.1 + f → L + 1 ≤ t.1 + f2 → itF B L f t = itF B L f2 t := by
  intro f
  induction f with
  | zero => intro f2 t h1 h2; omega
  | succ f ih =>
    intro f2 t h1 h2 h3
    obtain ⟨q, s, n, stk, sp, A⟩ := t
    have h1' : q ≤ L := h1
    have h2' : L + 1 ≤ q + (f + 1) := h2
    have h3' : L + 1 ≤ q + f2 := h3
    obtain ⟨f3, rfl⟩ : ∃ f3, f2 = f3 + 1 := ⟨f2 - 1, by omega⟩
    rw [itF, itF]
    by_cases z : tkK B L q = 0
    · rw [if_pos z, if_pos z]
    · rw [if_neg z, if_neg z]
      generalize eR : (if isK B L q 13 then enF B L q s n stk sp A else seF B L q s n stk sp A) = R
      cases R with
      | inl e => rfl
      | inr t =>
        have g := it_go h1' eR
        exact ih f3 t g.2 (by omega) (by omega)
/-- what comes of the rest of the text -/
noncomputable def itR (B : Nat → Int) (L : Nat) (t : aP) : Rs := itF B L (L + 1 - t.1) t
theorem itR_f {B : Nat → Int} {L f : Nat} {t : aP} (h1 : t.1 ≤ L) (h2 : L + 1 ≤ t.1 + f) : itF B L f t = itR B L t := it_f f _ t h1 h2 (by omega)
theorem itR_s {B : Nat → Int} {L q s n : Nat} {stk : List (Nat × Nat)} {sp : Int} {A : zHp} (hq : q ≤ L) (z : ¬ tkK B L q = 0) : itR B L (q, s, n, stk, sp, A) = match (if isK B L q 13 then enF B L q s n stk sp A else seF B L q s n stk sp A) with
    | .inl e => .inl e
    | .inr t => itR B L t := by
  have e : itR B L (q, s, n, stk, sp, A) = itF B L ((L - q) + 1) (q, s, n, stk, sp, A) := (itR_f (t := (q, s, n, stk, sp, A)) hq (by show L + 1 ≤ q + (L - q + 1); omega)).symm
  rw [e, itF, if_neg z]
  generalize eR : (if isK B L q 13 then enF B L q s n stk sp A else seF B L q s n stk sp A) = R
  cases R with
  | inl e => rfl
  | inr t =>
    have g := it_go hq eR
    exact itR_f g.2 (by omega)
theorem itR_0 {B : Nat → Int} {L q s n : Nat} {stk : List (Nat × Nat)} {sp : Int} {A : zHp} (hq : q ≤ L) (z : tkK B L q = 0) : itR B L (q, s, n, stk, sp, A) = if stk = [] then .inr (q, s, n, stk, sp, A) else .inl (fK (tkK B L q) 2, tkA B L q) := by
  have e : itR B L (q, s, n, stk, sp, A) = itF B L ((L - q) + 1) (q, s, n, stk, sp, A) := (itR_f (t := (q, s, n, stk, sp, A)) hq (by show L + 1 ≤ q + (L - q + 1); omega)).symm
  rw [e, itF, if_pos z]
theorem itR_st {B : Nat → Int} {L q s n : Nat} {stk : List (Nat × Nat)} {sp : Int} {A : zHp} (hq : q ≤ L) (k : ¬ kdS B L q = -1) : itR B L (q, s, n, stk, sp, A) = match seF B L q s n stk sp A with
    | .inl e => .inl e
    | .inr t => itR B L t := by
  have k1 := kdS_b.2.2 k
  rw [itR_s hq (by omega), if_neg k1.2]
theorem itR_en {B : Nat → Int} {L q s n : Nat} {p : Nat × Nat} {stk : List (Nat × Nat)} {sp : Int} {A : zHp} (hq : q ≤ L) (k : isK B L q 13) : itR B L (q, s, n, p :: stk, sp, A) = if sgK B L (tkE B L q) = 0 then itR B L (tkE B L (tkE B L q), s, n + 1, stk, sp, zup A 129 p.2 (s : Int)) else .inl (sgK B L (tkE B L q), tkA B L (tkE B L q)) := by
  rw [itR_s hq (by omega), if_pos k, enF]
  by_cases z : sgK B L (tkE B L q) = 0
  · rw [if_pos z, if_pos z]
  · rw [if_neg z, if_neg z]
theorem itR_no {B : Nat → Int} {L q s n : Nat} {stk : List (Nat × Nat)} {sp : Int} {A : zHp} (hq : q ≤ L) (k : kdS B L q = -1) (h0 : tkK B L q = 0 → ¬ stk = []) (h1 : isK B L q 13 → stk = []) : itR B L (q, s, n, stk, sp, A) = .inl (fK (tkK B L q) 2, tkA B L q) := by
  by_cases z : tkK B L q = 0
  · rw [itR_0 hq z, if_neg (h0 z)]
  · rw [itR_s hq z]
    by_cases y : isK B L q 13
    · rw [if_pos y, h1 y, enF]
    · rw [if_neg y, seF, if_pos k]
theorem r_stepWord (h : zHp) (B : Nat → Int) (L : Nat) (q : Nat) (hq : q ≤ L) (T : mTk B L q h) : zCi mX12_stepWord 2 [zA 117] h (fun v h' => kdS B L q = v ∧ h = h') := by
  refine z_enter [zA 117] (by decide +kernel) (Nat.le_of_ble_eq_true rfl) rfl (fun hra hrg => ?_)
  refine z_al0 eX12_stepWord_0 ?_
  refine z_ki eX12_stepWord_1 ?_
  refine z_ki eX12_stepWord_3 ?_
  refine z_ki eX12_stepWord_5 ?_
  refine z_ki eX12_stepWord_6 ?_
  refine z_ki eX12_stepWord_7 ?_
  refine z_ki eX12_stepWord_8 ?_
  refine zc_sj6 eX12_stepWord_9 lX12_171 tX12_spelled (by decide) (Nat.le_of_ble_eq_true rfl) (r_spelled _ 117 112 0 0 0 0 (by decide)) ?_
  rintro _ _ ⟨rfl, rfl⟩ -
  rw [sp_up]
  refine zc_vi1 eX12_stepWord_12 lX12_175 tX12_isWord zs117 (by decide) (Nat.le_of_ble_eq_true rfl) (r_isWord _ B L q hq T _ (kC_pos 14 (by decide))) ?_
  rintro _ _ ⟨rfl, rfl⟩ -
  refine z_ieq eX12_stepWord_15 rfl (fun c15 => ?_) (fun c15 => ?_)
  · have z15 := iteF c15
    refine z_al0 eX12_stepWord_20 ?_
    refine z_ki eX12_stepWord_21 ?_
    refine z_ki eX12_stepWord_23 ?_
    refine z_ki eX12_stepWord_25 ?_
    refine z_ki eX12_stepWord_27 ?_
    refine z_ki eX12_stepWord_29 ?_
    refine z_ki eX12_stepWord_30 ?_
    refine zc_sj6 eX12_stepWord_31 lX12_171 tX12_spelled (by decide) (Nat.le_of_ble_eq_true rfl) (r_spelled _ 100 111 119 110 0 0 (by decide)) ?_
    rintro _ _ ⟨rfl, rfl⟩ -
    rw [sp_down]
    refine zc_vi1 eX12_stepWord_34 lX12_175 tX12_isWord zs117 (by decide) (Nat.le_of_ble_eq_true rfl) (r_isWord _ B L q hq T _ (kC_pos 15 (by decide))) ?_
    rintro _ _ ⟨rfl, rfl⟩ -
    refine z_ieq eX12_stepWord_37 rfl (fun c37 => ?_) (fun c37 => ?_)
    · have z37 := iteF c37
      refine z_al0 eX12_stepWord_42 ?_
      refine z_ki eX12_stepWord_43 ?_
      refine z_ki eX12_stepWord_45 ?_
      refine z_ki eX12_stepWord_47 ?_
      refine z_ki eX12_stepWord_48 ?_
      refine z_ki eX12_stepWord_49 ?_
      refine z_ki eX12_stepWord_50 ?_
      refine zc_sj6 eX12_stepWord_51 lX12_171 tX12_spelled (by decide) (Nat.le_of_ble_eq_true rfl) (r_spelled _ 105 110 0 0 0 0 (by decide)) ?_
      rintro _ _ ⟨rfl, rfl⟩ -
      rw [sp_in]
      refine zc_vi1 eX12_stepWord_54 lX12_175 tX12_isWord zs117 (by decide) (Nat.le_of_ble_eq_true rfl) (r_isWord _ B L q hq T _ (kC_pos 16 (by decide))) ?_
      rintro _ _ ⟨rfl, rfl⟩ -
      refine z_ieq eX12_stepWord_57 rfl (fun c57 => ?_) (fun c57 => ?_)
      · have z57 := iteF c57
        refine z_al0 eX12_stepWord_62 ?_
        refine zc_vi0 eX12_stepWord_63 lX12_192 tX12_isOutWord zs117 (by decide) (Nat.le_of_ble_eq_true rfl) (r_kwOut _ B L q hq T) ?_
        rintro _ _ ⟨rfl, rfl⟩ -
        refine z_ieq eX12_stepWord_66 rfl (fun c66 => ?_) (fun c66 => ?_)
        · have z66 := iteF c66
          refine z_al0 eX12_stepWord_71 ?_
          refine z_ki eX12_stepWord_72 ?_
          refine z_ki eX12_stepWord_74 ?_
          refine z_ki eX12_stepWord_76 ?_
          refine z_ki eX12_stepWord_78 ?_
          refine z_ki eX12_stepWord_80 ?_
          refine z_ki eX12_stepWord_82 ?_
          refine zc_sj6 eX12_stepWord_83 lX12_171 tX12_spelled (by decide) (Nat.le_of_ble_eq_true rfl) (r_spelled _ 115 112 101 110 100 0 (by decide)) ?_
          rintro _ _ ⟨rfl, rfl⟩ -
          rw [sp_spend]
          refine zc_vi1 eX12_stepWord_86 lX12_175 tX12_isWord zs117 (by decide) (Nat.le_of_ble_eq_true rfl) (r_isWord _ B L q hq T _ (kC_pos 17 (by decide))) ?_
          rintro _ _ ⟨rfl, rfl⟩ -
          refine z_ieq eX12_stepWord_89 rfl (fun c89 => ?_) (fun c89 => ?_)
          · have z89 := iteF c89
            refine z_al0 eX12_stepWord_94 ?_
            refine z_ki eX12_stepWord_95 ?_
            refine z_ki eX12_stepWord_97 ?_
            refine z_ki eX12_stepWord_99 ?_
            refine z_ki eX12_stepWord_101 ?_
            refine z_ki eX12_stepWord_103 ?_
            refine z_ki eX12_stepWord_104 ?_
            refine zc_sj6 eX12_stepWord_105 lX12_171 tX12_spelled (by decide) (Nat.le_of_ble_eq_true rfl) (r_spelled _ 108 111 111 112 0 0 (by decide)) ?_
            rintro _ _ ⟨rfl, rfl⟩ -
            rw [sp_loop]
            refine zc_vi1 eX12_stepWord_108 lX12_175 tX12_isWord zs117 (by decide) (Nat.le_of_ble_eq_true rfl) (r_isWord _ B L q hq T _ (kC_pos 18 (by decide))) ?_
            rintro _ _ ⟨rfl, rfl⟩ -
            refine z_ieq eX12_stepWord_111 rfl (fun c111 => ?_) (fun c111 => ?_)
            · have z111 := iteF c111
              refine z_al0 eX12_stepWord_116 ?_
              refine z_ki eX12_stepWord_117 ?_
              refine z_ki eX12_stepWord_119 ?_
              refine z_ki eX12_stepWord_121 ?_
              refine z_ki eX12_stepWord_123 ?_
              refine z_ki eX12_stepWord_125 ?_
              refine z_ki eX12_stepWord_126 ?_
              refine zc_sj6 eX12_stepWord_127 lX12_171 tX12_spelled (by decide) (Nat.le_of_ble_eq_true rfl) (r_spelled _ 119 104 101 110 0 0 (by decide)) ?_
              rintro _ _ ⟨rfl, rfl⟩ -
              rw [sp_when]
              refine zc_vi1 eX12_stepWord_130 lX12_175 tX12_isWord zs117 (by decide) (Nat.le_of_ble_eq_true rfl) (r_isWord _ B L q hq T _ (kC_pos 19 (by decide))) ?_
              rintro _ _ ⟨rfl, rfl⟩ -
              refine z_ieq eX12_stepWord_133 rfl (fun c133 => ?_) (fun c133 => ?_)
              · have z133 := iteF c133
                refine z_al0 eX12_stepWord_139 ?_
                refine z_ki eX12_stepWord_140 ?_
                refine z_ki eX12_stepWord_142 ?_
                refine z_ki eX12_stepWord_144 ?_
                refine z_ki eX12_stepWord_146 ?_
                refine z_ki eX12_stepWord_148 ?_
                refine z_ki eX12_stepWord_150 ?_
                refine zc_sj6 eX12_stepWord_151 lX12_171 tX12_spelled (by decide) (Nat.le_of_ble_eq_true rfl) (r_spelled _ 117 110 116 105 108 0 (by decide)) ?_
                rintro _ _ ⟨rfl, rfl⟩ -
                rw [sp_until]
                refine zc_vi1 eX12_stepWord_154 lX12_175 tX12_isWord zs117 (by decide) (Nat.le_of_ble_eq_true rfl) (r_isWord _ B L q hq T _ (kC_pos 20 (by decide))) ?_
                rintro _ _ ⟨rfl, rfl⟩ -
                refine z_ieq eX12_stepWord_157 rfl (fun c157 => ?_) (fun c157 => ?_)
                · have z157 := iteF c157
                  refine z_ki eX12_stepWord_165 ?_
                  refine ze_i eX12_stepWord_166 rfl ?_
                  refine ⟨?_, rfl⟩
                  unfold kdS
                  rw [if_neg z15, if_neg z37, if_neg z57, if_neg z66, if_neg z89, if_neg z111, if_neg z133, if_neg z157]
                · have z157 := iteT c157
                  refine z_ki eX12_stepWord_160 ?_
                  refine z_goto eX12_stepWord_162 rfl ?_
                  refine ze_i eX12_stepWord_166 rfl ?_
                  refine ⟨?_, rfl⟩
                  unfold kdS
                  rw [if_neg z15, if_neg z37, if_neg z57, if_neg z66, if_neg z89, if_neg z111, if_neg z133, if_pos z157]
              · have z133 := iteT c133
                refine z_ki eX12_stepWord_136 ?_
                refine ze_i eX12_stepWord_138 rfl ?_
                refine ⟨?_, rfl⟩
                unfold kdS
                rw [if_neg z15, if_neg z37, if_neg z57, if_neg z66, if_neg z89, if_neg z111, if_pos z133]
            · have z111 := iteT c111
              refine z_ki eX12_stepWord_114 ?_
              refine ze_i eX12_stepWord_115 rfl ?_
              refine ⟨?_, rfl⟩
              unfold kdS
              rw [if_neg z15, if_neg z37, if_neg z57, if_neg z66, if_neg z89, if_pos z111]
          · have z89 := iteT c89
            refine z_ki eX12_stepWord_92 ?_
            refine ze_i eX12_stepWord_93 rfl ?_
            refine ⟨?_, rfl⟩
            unfold kdS
            rw [if_neg z15, if_neg z37, if_neg z57, if_neg z66, if_pos z89]
        · have z66 := iteT c66
          refine z_ki eX12_stepWord_69 ?_
          refine ze_i eX12_stepWord_70 rfl ?_
          refine ⟨?_, rfl⟩
          unfold kdS
          rw [if_neg z15, if_neg z37, if_neg z57, if_pos z66]
      · have z57 := iteT c57
        refine z_ki eX12_stepWord_60 ?_
        refine ze_i eX12_stepWord_61 rfl ?_
        refine ⟨?_, rfl⟩
        unfold kdS
        rw [if_neg z15, if_neg z37, if_pos z57]
    · have z37 := iteT c37
      refine z_ki eX12_stepWord_40 ?_
      refine ze_i eX12_stepWord_41 rfl ?_
      refine ⟨?_, rfl⟩
      unfold kdS
      rw [if_neg z15, if_pos z37]
  · have z15 := iteT c15
    refine z_ki eX12_stepWord_18 ?_
    refine ze_i eX12_stepWord_19 rfl ?_
    refine ⟨?_, rfl⟩
    unfold kdS
    rw [if_pos z15]
theorem r_isNot (h : zHp) (B : Nat → Int) (L : Nat) (q : Nat) (hq : q ≤ L) (T : mTk B L q h) : zCi mX12_isNot 1 [zA 117] h (fun v h' => (if tkK B L q = 1 ∧ tkW B L q = kC 21 then 1 else 0) = v ∧ h = h') := by
  refine z_enter [zA 117] (by decide +kernel) (Nat.le_of_ble_eq_true rfl) rfl (fun hra hrg => ?_)
  refine z_al0 eX12_isNot_0 ?_
  refine z_ki eX12_isNot_1 ?_
  refine z_ki eX12_isNot_3 ?_
  refine z_ki eX12_isNot_5 ?_
  refine z_ki eX12_isNot_7 ?_
  refine z_ki eX12_isNot_8 ?_
  refine z_ki eX12_isNot_9 ?_
  refine zc_sj6 eX12_isNot_10 lX12_171 tX12_spelled (by decide) (Nat.le_of_ble_eq_true rfl) (r_spelled _ 110 111 116 0 0 0 (by decide)) ?_
  rintro _ _ ⟨rfl, rfl⟩ -
  rw [sp_not]
  refine zc_vi1 eX12_isNot_13 lX12_175 tX12_isWord zs117 (by decide) (Nat.le_of_ble_eq_true rfl) (r_isWord _ B L q hq T _ (kC_pos 21 (by decide))) ?_
  rintro _ _ ⟨rfl, rfl⟩ -
  refine ze_z eX12_isNot_16 rfl (by first | (split; exact Or.inr rfl; exact Or.inl rfl) | exact Or.inl rfl | exact Or.inr rfl) ?_
  exact ⟨rfl, rfl⟩
theorem r_isEnd (h : zHp) (B : Nat → Int) (L : Nat) (q : Nat) (hq : q ≤ L) (T : mTk B L q h) : zCi mX12_isEnd 1 [zA 117] h (fun v h' => (if tkK B L q = 1 ∧ tkW B L q = kC 13 then 1 else 0) = v ∧ h = h') := by
  refine z_enter [zA 117] (by decide +kernel) (Nat.le_of_ble_eq_true rfl) rfl (fun hra hrg => ?_)
  refine z_al0 eX12_isEnd_0 ?_
  refine z_ki eX12_isEnd_1 ?_
  refine z_ki eX12_isEnd_3 ?_
  refine z_ki eX12_isEnd_5 ?_
  refine z_ki eX12_isEnd_7 ?_
  refine z_ki eX12_isEnd_8 ?_
  refine z_ki eX12_isEnd_9 ?_
  refine zc_sj6 eX12_isEnd_10 lX12_171 tX12_spelled (by decide) (Nat.le_of_ble_eq_true rfl) (r_spelled _ 101 110 100 0 0 0 (by decide)) ?_
  rintro _ _ ⟨rfl, rfl⟩ -
  rw [sp_end]
  refine zc_vi1 eX12_isEnd_13 lX12_175 tX12_isWord zs117 (by decide) (Nat.le_of_ble_eq_true rfl) (r_isWord _ B L q hq T _ (kC_pos 13 (by decide))) ?_
  rintro _ _ ⟨rfl, rfl⟩ -
  refine ze_z eX12_isEnd_16 rfl (by first | (split; exact Or.inr rfl; exact Or.inl rfl) | exact Or.inl rfl | exact Or.inr rfl) ?_
  exact ⟨rfl, rfl⟩
theorem r_isEndW (h : zHp) : zCi mX12_isEnd 1 [zA 117] h (fun v h' => (v = 0 ∨ v = 1) ∧ h = h') := by
  refine z_enter [zA 117] (by decide +kernel) (Nat.le_of_ble_eq_true rfl) rfl (fun hra hrg => ?_)
  refine z_al0 eX12_isEnd_0 ?_
  refine z_ki eX12_isEnd_1 ?_
  refine z_ki eX12_isEnd_3 ?_
  refine z_ki eX12_isEnd_5 ?_
  refine z_ki eX12_isEnd_7 ?_
  refine z_ki eX12_isEnd_8 ?_
  refine z_ki eX12_isEnd_9 ?_
  refine zc_sj6 eX12_isEnd_10 lX12_171 tX12_spelled (by decide) (Nat.le_of_ble_eq_true rfl) (r_spelled _ 101 110 100 0 0 0 (by decide)) ?_
  rintro _ _ ⟨rfl, rfl⟩ -
  refine zc_vi1 eX12_isEnd_13 lX12_175 tX12_isWord zs117 (by decide) (Nat.le_of_ble_eq_true rfl) (r_isWordW _ _) ?_
  rintro v1 _ ⟨v01, rfl⟩ -
  refine ze_z eX12_isEnd_16 rfl (by exact v01) ?_
  exact ⟨v01, rfl⟩
theorem r_isAct (h : zHp) (B : Nat → Int) (L : Nat) (q : Nat) (hq : q ≤ L) (T : mTk B L q h) : zCi mX12_isActName 3 [zA 117] h (fun v h' => b01 (acQ B L q) = v ∧ h = h') := by
  refine z_enter [zA 117] (by decide +kernel) (Nat.le_of_ble_eq_true rfl) rfl (fun hra hrg => ?_)
  have t14 := T.1
  have kd := kdS_b (B := B) (L := L) (q := q)
  refine z_al0 eX12_isActName_0 ?_
  refine z_gi eX12_isActName_1 fX12_149 zs117 ?_
  refine z_ki eX12_isActName_4 ?_
  refine z_cne eX12_isActName_5 rfl (fun c5 => ?_) (fun c5 => ?_)
  · refine z_ki eX12_isActName_42 ?_
    refine ze_z eX12_isActName_43 rfl (by first | exact Or.inl rfl | exact Or.inr rfl) ?_
    refine ⟨?_, rfl⟩
    refine b01_f (fun z => ?_)
    obtain ⟨y0, y1, y2, y3, y4⟩ := z
    omega
  · have e7 := T.2.2.1 (by omega)
    have e18 : h 117 18 ≤ 8 ↔ ¬ tkW B L q = 0 := by
      by_cases z0 : tkW B L q = 0
      · have := (e7.1 z0).2; omega
      · have := (e7.2 z0).2; omega
    refine z_al0 eX12_isActName_8 ?_
    refine z_gi eX12_isActName_9 fX12_162 zs117 ?_
    refine z_ki eX12_isActName_12 ?_
    refine z_cgt eX12_isActName_14 rfl (fun c14 => ?_) (fun c14 => ?_)
    · refine z_ki eX12_isActName_42 ?_
      refine ze_z eX12_isActName_43 rfl (by first | exact Or.inl rfl | exact Or.inr rfl) ?_
      refine ⟨?_, rfl⟩
      refine b01_f (fun z => ?_)
      obtain ⟨y0, y1, y2, y3, y4⟩ := z
      omega
    · refine z_al0 eX12_isActName_17 ?_
      refine zc_vi0 eX12_isActName_18 lX12_470 tX12_stepWord zs117 (by decide) (Nat.le_of_ble_eq_true rfl) (r_stepWord _ B L q hq T) ?_
      rintro _ _ ⟨rfl, rfl⟩ -
      refine z_ige eX12_isActName_21 rfl (fun c21 => ?_) (fun c21 => ?_)
      · refine z_ki eX12_isActName_42 ?_
        refine ze_z eX12_isActName_43 rfl (by first | exact Or.inl rfl | exact Or.inr rfl) ?_
        refine ⟨?_, rfl⟩
        refine b01_f (fun z => ?_)
        obtain ⟨y0, y1, y2, y3, y4⟩ := z
        omega
      · refine z_al0 eX12_isActName_24 ?_
        refine zc_vi0 eX12_isActName_25 lX12_473 tX12_isNot zs117 (by decide) (Nat.le_of_ble_eq_true rfl) (r_isNot _ B L q hq T) ?_
        rintro _ _ ⟨rfl, rfl⟩ -
        refine z_ine eX12_isActName_28 rfl (fun c28 => ?_) (fun c28 => ?_)
        · have z28 := iteT c28
          refine z_ki eX12_isActName_42 ?_
          refine ze_z eX12_isActName_43 rfl (by first | exact Or.inl rfl | exact Or.inr rfl) ?_
          refine ⟨?_, rfl⟩
          refine b01_f (fun z => ?_)
          obtain ⟨y0, y1, y2, y3, y4⟩ := z
          omega
        · have z28 := iteF c28
          refine z_al0 eX12_isActName_31 ?_
          refine zc_vi0 eX12_isActName_32 lX12_476 tX12_isEnd zs117 (by decide) (Nat.le_of_ble_eq_true rfl) (r_isEnd _ B L q hq T) ?_
          rintro _ _ ⟨rfl, rfl⟩ -
          refine z_ine eX12_isActName_35 rfl (fun c35 => ?_) (fun c35 => ?_)
          · have z35 := iteT c35
            refine z_ki eX12_isActName_42 ?_
            refine ze_z eX12_isActName_43 rfl (by first | exact Or.inl rfl | exact Or.inr rfl) ?_
            refine ⟨?_, rfl⟩
            refine b01_f (fun z => ?_)
            obtain ⟨y0, y1, y2, y3, y4⟩ := z
            omega
          · have z35 := iteF c35
            refine z_ki eX12_isActName_38 ?_
            refine z_goto eX12_isActName_39 rfl ?_
            refine ze_z eX12_isActName_43 rfl (by first | exact Or.inl rfl | exact Or.inr rfl) ?_
            refine ⟨?_, rfl⟩
            exact b01_t ⟨by omega, by omega, by omega, by omega, by omega⟩
