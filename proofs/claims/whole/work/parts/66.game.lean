-- game (written by wip/tools/specG1.py)
def bI (b : Bool) : Int := if b = true then 1 else 0
theorem bI_01 (b : Bool) : bI b = 0 ∨ bI b = 1 := by cases b <;> simp [bI]
theorem bI_0 {b : Bool} (h : bI b = 0) : b = false := by cases b with
  | false => rfl
  | true => exact absurd h (by decide)
theorem bI_1 {b : Bool} (h : ¬ bI b = 0) : b = true := by cases b with
  | true => rfl
  | false => exact absurd rfl h
/-- any, all: over the moves below k of mv from set -/
def orF (mv : Nat) (G : Nat → Bool) (set : Nat) : Nat → Bool
  | 0 => G set
  | k + 1 => if mv.testBit k = true then orF mv G set k || G (set ^^^ 2 ^ k) else orF mv G set k
def anF (mv : Nat) (G : Nat → Bool) (set : Nat) : Nat → Bool
  | 0 => G set
  | k + 1 => if mv.testBit k = true then anF mv G set k && G (set ^^^ 2 ^ k) else anF mv G set k
def stF (n : Nat) (any : Int) (mv : Nat) (G : Nat → Bool) (set : Nat) (k : Nat) : Bool := if any = 1 then orF mv G set k else anF mv G set k
/-- whether the one can make sure, l turns ahead of the end -/
def gmF (D : Nat → Int) (a : Int) (mn ot : Nat) : Nat → Nat → Bool
  | 0, set => decide (winNow D set = a)
  | l + 1, set => if l % 2 = 1 then orF mn (gmF D a mn ot l) set (nN D) else anF ot (gmF D a mn ot l) set (nN D)
theorem orF_up {mv : Nat} {G : Nat → Bool} {set k : Nat} (h : orF mv G set k = true) : ∀ n, k ≤ n → orF mv G set n = true := by
  intro n
  induction n with
  | zero => intro hk; rw [show (0 : Nat) = k by omega]; exact h
  | succ n ih =>
    intro hk
    by_cases e : k = n + 1
    · rw [← e]; exact h
    · rw [orF, ih (by omega)]
      split <;> rfl
theorem anF_up {mv : Nat} {G : Nat → Bool} {set k : Nat} (h : anF mv G set k = false) : ∀ n, k ≤ n → anF mv G set n = false := by
  intro n
  induction n with
  | zero => intro hk; rw [show (0 : Nat) = k by omega]; exact h
  | succ n ih =>
    intro hk
    by_cases e : k = n + 1
    · rw [← e]; exact h
    · rw [anF, ih (by omega)]
      split <;> rfl
theorem orF_cg {mv : Nat} {G G' : Nat → Bool} {set : Nat} (h0 : G set = G' set) : ∀ n, (∀ k, k < n → mv.testBit k = true → G (set ^^^ 2 ^ k) = G' (set ^^^ 2 ^ k)) → orF mv G set n = orF mv G' set n := by
  intro n
  induction n with
  | zero => intro _; exact h0
  | succ n ih =>
    intro h
    rw [orF, orF, ih (fun k hk => h k (by omega))]
    split
    · next q => rw [h n (by omega) q]
    · rfl
theorem anF_cg {mv : Nat} {G G' : Nat → Bool} {set : Nat} (h0 : G set = G' set) : ∀ n, (∀ k, k < n → mv.testBit k = true → G (set ^^^ 2 ^ k) = G' (set ^^^ 2 ^ k)) → anF mv G set n = anF mv G' set n := by
  intro n
  induction n with
  | zero => intro _; exact h0
  | succ n ih =>
    intro h
    rw [anF, anF, ih (fun k hk => h k (by omega))]
    split
    · next q => rw [h n (by omega) q]
    · rfl
/-- reached from S by moves of mn and ot -/
def rch (S mn ot set : Nat) : Prop := ∀ k : Nat, (mn.testBit k || ot.testBit k) = false → set.testBit k = S.testBit k
theorem rch_mv {S mn ot set k : Nat} (H : rch S mn ot set) (hk : mn.testBit k = true ∨ ot.testBit k = true) : rch S mn ot (set ^^^ 2 ^ k) := fun j hj => by
  rw [Nat.testBit_xor, Nat.testBit_two_pow_of_ne (fun e => by
    subst e
    rcases hk with q | q <;> rw [q] at hj <;> simp at hj), Bool.xor_false]
  exact H j hj
/-- the class's table, l turns ahead of the end -/
def tbF (D : Nat → Int) (a : Int) (mn ot : Nat) (R : Nat → Bool) : Nat → Nat → Bool
  | 0, set => R set && decide (winNow D set = a)
  | l + 1, set => if l % 2 = 1 then orF mn (tbF D a mn ot R l) set (nN D) else anF ot (tbF D a mn ot R l) set (nN D)
theorem tb_gm {D : Nat → Int} {a : Int} {mn ot S : Nat} {R : Nat → Bool} (hR : ∀ set, set < 2 ^ nN D → rch S mn ot set → R set = true) : ∀ l set, set < 2 ^ nN D → rch S mn ot set → tbF D a mn ot R l set = gmF D a mn ot l set := by
  intro l
  induction l with
  | zero => intro set hs hr; rw [tbF, gmF, hR set hs hr, Bool.true_and]
  | succ l ih =>
    intro set hs hr
    rw [tbF, gmF]
    split
    · exact orF_cg (ih set hs hr) _ (fun k hk hm => ih _ (Nat.xor_lt_two_pow hs (Nat.pow_lt_pow_right (by omega) hk)) (rch_mv hr (Or.inl hm)))
    · exact anF_cg (ih set hs hr) _ (fun k hk hm => ih _ (Nat.xor_lt_two_pow hs (Nat.pow_lt_pow_right (by omega) hk)) (rch_mv hr (Or.inr hm)))
def opF (mn : Nat) (G : Nat → Bool) (S : Nat) : Nat → Nat → Int
  | 0, _ => -2
  | r + 1, k => if mn.testBit k = true ∧ G (S ^^^ 2 ^ k) = true then (k : Int) else opF mn G S r (k + 1)
def opn (mn : Nat) (G : Nat → Bool) (S n : Nat) : Int := if G S = true then -1 else opF mn G S n 0
theorem opF_cg {mn : Nat} {G G' : Nat → Bool} {S : Nat} : ∀ r k, (∀ j, k ≤ j → j < k + r → mn.testBit j = true → G (S ^^^ 2 ^ j) = G' (S ^^^ 2 ^ j)) → opF mn G S r k = opF mn G' S r k := by
  intro r
  induction r with
  | zero => intro k _; rfl
  | succ r ih =>
    intro k h
    rw [opF, opF, ih (k + 1) (fun j a b => h j (by omega) (by omega))]
    by_cases q : mn.testBit k = true
    · rw [h k (by omega) (by omega) q]
    · rw [if_neg (fun z => q z.1), if_neg (fun z => q z.1)]
theorem opF_or {mn : Nat} {G : Nat → Bool} {S : Nat} : ∀ r k, orF mn G S k = false → (opF mn G S r k = -2 ↔ orF mn G S (k + r) = false) := by
  intro r
  induction r with
  | zero => intro k h; exact ⟨fun _ => h, fun _ => rfl⟩
  | succ r ih =>
    intro k h
    have hs : orF mn G S (k + 1) = (if mn.testBit k = true then orF mn G S k || G (S ^^^ 2 ^ k) else orF mn G S k) := rfl
    rw [opF]
    by_cases q : mn.testBit k = true ∧ G (S ^^^ 2 ^ k) = true
    · rw [if_pos q]
      constructor
      · intro z; omega
      · intro z
        have : orF mn G S (k + 1) = true := by rw [hs, if_pos q.1, q.2, Bool.or_true]
        rw [orF_up this (k + (r + 1)) (by omega)] at z
        cases z
    · rw [if_neg q, show k + (r + 1) = k + 1 + r by omega]
      apply ih
      rw [hs, h]
      by_cases q1 : mn.testBit k = true
      · rw [if_pos q1, Bool.false_or]
        cases z : G (S ^^^ 2 ^ k) with
        | false => rfl
        | true => exact absurd ⟨q1, z⟩ q
      · rw [if_neg q1]
theorem opF_b {mn : Nat} {G : Nat → Bool} {S : Nat} : ∀ r k, opF mn G S r k = -2 ∨ (k ≤ opF mn G S r k ∧ opF mn G S r k < k + r) := by
  intro r
  induction r with
  | zero => intro k; exact Or.inl rfl
  | succ r ih =>
    intro k
    rw [opF]
    split
    · exact Or.inr ⟨by omega, by omega⟩
    · have := ih (k + 1)
      omega
theorem xor_p2_lt {s n k : Nat} (hs : s < 2 ^ n) (hk : k < n) : s ^^^ 2 ^ k < 2 ^ n := Nat.xor_lt_two_pow hs (Nat.pow_lt_pow_right (by omega) hk)
theorem x_sb_k (h : zHp) (D : Nat → Int) (hb : dB D) (h40 : h 4 0 = D 0) (mv : Nat) (hmv : mv < 256) (any al : Int) (hany : any = 0 ∨ any = 1) (G : Nat → Bool) (hG : ∀ s : Nat, s < 2 ^ nN D → h 61 s = bI (G s)) (set : Nat) (hset : set < 2 ^ nN D) (Q : zHp → Prop) (kE : zRW mX6_stepBack 1 (0, 0) 117 [zA 60, zI mv, zI any, zI al, zI set, zI (bI (stF (nN D) any mv G set (nN D))), zI (nN D), zU] [] 143 h (zqv Q)) : ∀ (r k : Nat), k + r = nN D → zRW mX6_stepBack 1 (0, 0) 37 [zA 60, zI mv, zI any, zI al, zI set, zI (bI (stF (nN D) any mv G set k)), zI k, zU] [] 143 h (zqv Q) := by
  have hN := nN_eq hb
  have hN8 := nN_le hb
  have h256 := p2le hN8
  intro r
  induction r using Nat.strongRecOn with
  | ind r ih =>
    intro k hk
    have h01 := bI_01 (stF (nN D) any mv G set k)
    have hst : stF (nN D) any mv G set (k + 1) = if any = 1 then orF mv G set (k + 1) else anF mv G set (k + 1) := rfl
    have hst0 : stF (nN D) any mv G set k = if any = 1 then orF mv G set k else anF mv G set k := rfl
    refine z_il6 eX6_stepBack_37 ?_
    refine z_al0 eX6_stepBack_39 ?_
    refine z_ga eX6_stepBack_40 fX6_22 zs60 (t := 4) rfl ?_
    refine z_gi eX6_stepBack_43 fX6_57 zs4 ?_
    refine z_cge eX6_stepBack_46 rfl (fun c46 => ?_) (fun c46 => ?_)
    · have e : k = nN D := by omega
      subst e
      exact kE
    · refine z_il1 eX6_stepBack_49 ?_
      refine z_il6 eX6_stepBack_50 ?_
      refine z_ishr eX6_stepBack_52 ?_
      refine z_ki eX6_stepBack_53 ?_
      refine z_iand eX6_stepBack_54 ?_
      rw [kb_bit (by omega) (by omega)]
      have hp2 := Nat.pow_le_pow_right (n := 2) (by omega) (show k ≤ 7 by omega)
      have hxl := xor_p2_lt hset (show k < nN D by omega)
      refine z_ieq eX6_stepBack_55 rfl (fun c55 => ?_) (fun c55 => ?_)
      · have z55 := iteF c55
        refine z_incN6 eX6_stepBack_111 zn0 (by omega) (by omega) ?_
        refine z_goto eX6_stepBack_114 rfl ?_
        rw [show stF (nN D) any mv G set k = stF (nN D) any mv G set (k + 1) by rw [hst, hst0, orF, anF, if_neg z55, if_neg z55]]
        exact ih (r - 1) (by omega) (k + 1) (by omega)
      · have z55 := iteT c55
        refine z_al0 eX6_stepBack_58 ?_
        refine z_ga eX6_stepBack_59 fX6_11 zs60 (t := 61) rfl ?_
        refine z_il4 eX6_stepBack_62 ?_
        refine z_ki eX6_stepBack_64 ?_
        refine z_il6 eX6_stepBack_65 ?_
        refine z_ishl eX6_stepBack_67 ?_
        refine z_ixor eX6_stepBack_68 ?_
        rw [kb_shl1 (by omega), kb_xor (by omega) (by omega)]
        refine zr_zN eX6_stepBack_69 zs61 (j := (set ^^^ 2 ^ k)) (by omega) (by omega) ?_
        rw [hG _ hxl]
        refine z_is7 eX6_stepBack_70 zn0 ?_
        refine z_il2 eX6_stepBack_72 ?_
        refine z_ieq eX6_stepBack_73 rfl (fun c73 => ?_) (fun c73 => ?_)
        · refine z_il5 eX6_stepBack_94 ?_
          refine z_ieq eX6_stepBack_96 rfl (fun c96 => ?_) (fun c96 => ?_)
          · refine z_ki eX6_stepBack_108 ?_
            refine z_is5 eX6_stepBack_109 zn0 ?_
            refine z_incN6 eX6_stepBack_111 zn0 (by omega) (by omega) ?_
            refine z_goto eX6_stepBack_114 rfl ?_
            refine z_fg7 ?_
            have ea : ¬ any = 1 := by omega
            rw [if_neg ea, anF, if_pos z55] at hst
            rw [if_neg ea] at hst0
            have q1 := bI_0 c96
            rw [hst0] at q1
            have ee : bI (stF (nN D) any mv G set (k + 1)) = 0 := by rw [hst, q1, Bool.false_and]; rfl
            have qq := ih (r - 1) (by omega) (k + 1) (by omega)
            rw [ee] at qq
            exact qq
          · refine z_il7 eX6_stepBack_99 ?_
            refine z_ieq eX6_stepBack_101 rfl (fun c101 => ?_) (fun c101 => ?_)
            · refine z_ki eX6_stepBack_108 ?_
              refine z_is5 eX6_stepBack_109 zn0 ?_
              refine z_incN6 eX6_stepBack_111 zn0 (by omega) (by omega) ?_
              refine z_goto eX6_stepBack_114 rfl ?_
              refine z_fg7 ?_
              have ea : ¬ any = 1 := by omega
              rw [if_neg ea, anF, if_pos z55] at hst
              rw [if_neg ea] at hst0
              have q1 := bI_0 c101
              have ee : bI (stF (nN D) any mv G set (k + 1)) = 0 := by rw [hst, q1, Bool.and_false]; rfl
              have qq := ih (r - 1) (by omega) (k + 1) (by omega)
              rw [ee] at qq
              exact qq
            · refine z_ki eX6_stepBack_104 ?_
              refine z_goto eX6_stepBack_105 rfl ?_
              refine z_is5 eX6_stepBack_109 zn0 ?_
              refine z_incN6 eX6_stepBack_111 zn0 (by omega) (by omega) ?_
              refine z_goto eX6_stepBack_114 rfl ?_
              refine z_fg7 ?_
              have ea : ¬ any = 1 := by omega
              rw [if_neg ea, anF, if_pos z55] at hst
              rw [if_neg ea] at hst0
              have q1 := bI_1 c96
              have q2 := bI_1 c101
              rw [hst0] at q1
              have ee : bI (stF (nN D) any mv G set (k + 1)) = 1 := by rw [hst, q1, q2]; rfl
              have qq := ih (r - 1) (by omega) (k + 1) (by omega)
              rw [ee] at qq
              exact qq
        · refine z_il5 eX6_stepBack_76 ?_
          refine z_ine eX6_stepBack_78 rfl (fun c78 => ?_) (fun c78 => ?_)
          · refine z_ki eX6_stepBack_86 ?_
            refine z_goto eX6_stepBack_87 rfl ?_
            refine z_is5 eX6_stepBack_109 zn0 ?_
            refine z_incN6 eX6_stepBack_111 zn0 (by omega) (by omega) ?_
            refine z_goto eX6_stepBack_114 rfl ?_
            refine z_fg7 ?_
            have ea : any = 1 := by omega
            rw [if_pos ea, orF, if_pos z55] at hst
            rw [if_pos ea] at hst0
            have q1 := bI_1 c78
            rw [hst0] at q1
            have ee : bI (stF (nN D) any mv G set (k + 1)) = 1 := by rw [hst, q1, Bool.true_or]; rfl
            have qq := ih (r - 1) (by omega) (k + 1) (by omega)
            rw [ee] at qq
            exact qq
          · refine z_il7 eX6_stepBack_81 ?_
            refine z_ieq eX6_stepBack_83 rfl (fun c83 => ?_) (fun c83 => ?_)
            · refine z_ki eX6_stepBack_90 ?_
              refine z_goto eX6_stepBack_91 rfl ?_
              refine z_is5 eX6_stepBack_109 zn0 ?_
              refine z_incN6 eX6_stepBack_111 zn0 (by omega) (by omega) ?_
              refine z_goto eX6_stepBack_114 rfl ?_
              refine z_fg7 ?_
              have ea : any = 1 := by omega
              rw [if_pos ea, orF, if_pos z55] at hst
              rw [if_pos ea] at hst0
              have q1 := bI_0 c78
              have q2 := bI_0 c83
              rw [hst0] at q1
              have ee : bI (stF (nN D) any mv G set (k + 1)) = 0 := by rw [hst, q1, q2]; rfl
              have qq := ih (r - 1) (by omega) (k + 1) (by omega)
              rw [ee] at qq
              exact qq
            · refine z_ki eX6_stepBack_86 ?_
              refine z_goto eX6_stepBack_87 rfl ?_
              refine z_is5 eX6_stepBack_109 zn0 ?_
              refine z_incN6 eX6_stepBack_111 zn0 (by omega) (by omega) ?_
              refine z_goto eX6_stepBack_114 rfl ?_
              refine z_fg7 ?_
              have ea : any = 1 := by omega
              rw [if_pos ea, orF, if_pos z55] at hst
              rw [if_pos ea] at hst0
              have q1 := bI_1 c83
              have ee : bI (stF (nN D) any mv G set (k + 1)) = 1 := by rw [hst, q1, Bool.or_true]; rfl
              have qq := ih (r - 1) (by omega) (k + 1) (by omega)
              rw [ee] at qq
              exact qq
theorem zFr2_61 {h g : zHp} (F : ∀ c : Nat, ¬ c = 61 → ¬ c = 62 → g c = h c) : zXf h g := ⟨zEx.blk zEx.rf 61 62 (fun c hc => F c (by omega) (by omega)) (fun c i c1 c2 => Or.inl (by
  have : c = 61 ∨ c = 62 := by omega
  rcases this with rfl | rfl <;> rfl)), fun a ha => F a (by omega) (by omega), by rw [F 0 (by omega) (by omega)]⟩
theorem x_sb_s (h : zHp) (D : Nat → Int) (hb : dB D) (h40 : h 4 0 = D 0) (mv : Nat) (hmv : mv < 256) (any : Int) (hany : any = 0 ∨ any = 1) (G : Nat → Bool) (hG : ∀ s : Nat, s < 2 ^ nN D → h 61 s = bI (G s)) : ∀ (r set : Nat) (g : zHp), set + r = 2 ^ nN D → zFr 62 h g → (∀ s : Nat, s < set → g 62 s = bI (stF (nN D) any mv G s (nN D))) → zRW mX6_stepBack 1 (0, 0) 11 [zA 60, zI mv, zI any, zI ((2 ^ nN D - 1 : Nat) : Int), zI set, zU, zU, zU] [] 143 g (zqv (fun h' => (∀ c : Nat, ¬ c = 61 → ¬ c = 62 → h' c = h c) ∧ ∀ s : Nat, s < 2 ^ nN D → h' 61 s = bI (stF (nN D) any mv G s (nN D)))) := by
  have hN8 := nN_le hb
  have h256 := p2le hN8
  have hpp := Nat.two_pow_pos (nN D)
  intro r
  induction r using Nat.strongRecOn with
  | ind r ih =>
    intro set g hs hfr hdone
    refine z_il4 eX6_stepBack_11 ?_
    refine z_il3 eX6_stepBack_13 ?_
    refine z_cgt eX6_stepBack_14 rfl (fun c14 => ?_) (fun c14 => ?_)
    · refine z_al0 eX6_stepBack_132 ?_
      refine z_ga eX6_stepBack_133 fX6_15 zs60 (t := 62) rfl ?_
      refine z_ki eX6_stepBack_136 ?_
      refine z_al0 eX6_stepBack_137 ?_
      refine z_ga eX6_stepBack_138 fX6_11 zs60 (t := 61) rfl ?_
      refine z_ki eX6_stepBack_141 ?_
      refine z_ki eX6_stepBack_142 ?_
      refine zy_i eX6_stepBack_145 lX6_60 (Or.inr rfl) zs62 zs61 (by decide) (by decide) (by decide) (by decide) (by decide) (by decide) (Nat.le_of_ble_eq_true rfl) ?_
      refine ze_v eX6_stepBack_148 rfl ?_
      have e : set = 2 ^ nN D := by omega
      subst e
      refine ⟨fun c c1 c2 => (zcp_off c1).trans (hfr c c2), fun s hs => ?_⟩
      show zcp g 62 0 61 0 256 61 s = _
      rw [zcp_on (by omega)]
      exact hdone s hs
    · refine z_il4 eX6_stepBack_17 ?_
      refine z_ki eX6_stepBack_19 ?_
      refine z_cge eX6_stepBack_22 rfl (fun c22 => ?_) (fun c22 => ?_)
      · exfalso; omega
      · refine z_al0 eX6_stepBack_25 ?_
        refine z_ga eX6_stepBack_26 fX6_11 zs60 (t := 61) rfl ?_
        refine z_il4 eX6_stepBack_29 ?_
        refine zr_zN eX6_stepBack_31 zs61 (j := set) (by omega) (by omega) ?_
        rw [show g 61 set = bI (G set) by rw [hfr 61 (by decide)]; exact hG set (by omega)]
        refine z_is5 eX6_stepBack_32 zn0 ?_
        refine z_ki eX6_stepBack_34 ?_
        refine z_is6 eX6_stepBack_35 zn0 ?_
        rw [show bI (G set) = bI (stF (nN D) any mv G set 0) by unfold stF; rw [orF, anF]; split <;> rfl]
        refine x_sb_k g D hb (by rw [hfr 4 (by decide)]; exact h40) mv hmv any _ hany G (fun s hs => by rw [hfr 61 (by decide)]; exact hG s hs) set (by omega) _ ?_ (nN D) 0 (Nat.zero_add _)
        refine z_al0 eX6_stepBack_117 ?_
        refine z_ga eX6_stepBack_118 fX6_15 zs60 (t := 62) rfl ?_
        refine z_il4 eX6_stepBack_121 ?_
        refine z_il5 eX6_stepBack_123 ?_
        refine zs_zN eX6_stepBack_125 zs62 (j := set) (by omega) (by omega) (by exact bI_01 _) ?_
        refine z_incN4 eX6_stepBack_126 zn0 (by omega) (by omega) ?_
        refine z_goto eX6_stepBack_129 rfl ?_
        refine z_fg5 ?_
        refine z_fg6 ?_
        refine ih (r - 1) (by omega) (set + 1) _ (by omega) (hfr.up _ _) (fun s hs2 => ?_)
        by_cases e : s = set
        · subst e; exact zup_at _ _ _ _
        · rw [zup_ne (by omega)]; exact hdone s (by omega)
theorem x_sb (h : zHp) (H : rHR h) (D : Nat → Int) (hD : h 122 = D) (mv : Nat) (hmv : mv < 256) (any : Int) (hany : any = 0 ∨ any = 1) (G : Nat → Bool) (hG : ∀ s : Nat, s < 2 ^ nN D → h 61 s = bI (G s)) : zCv mX6_stepBack 1 [zA 60, zI mv, zI any] h (fun h' => (∀ c : Nat, ¬ c = 61 → ¬ c = 62 → h' c = h c) ∧ ∀ s : Nat, s < 2 ^ nN D → h' 61 s = bI (stF (nN D) any mv G s (nN D))) := by
  refine z_enter [zA 60, zI mv, zI any, zU, zU, zU, zU, zU] (by decide +kernel) (Nat.le_of_ble_eq_true rfl) rfl (fun hra hrg => ?_)
  subst hD
  refine z_al0 eX6_stepBack_0 ?_
  refine z_ga eX6_stepBack_1 fX6_22 zs60 (t := 4) rfl ?_
  refine zc_vi0 eX6_stepBack_4 lX6_30 tX5_allNames zs4 (by decide) (Nat.le_of_ble_eq_true rfl) (x_allNames _ H) ?_
  rintro _ _ ⟨rfl, rfl⟩ -
  refine z_is3 eX6_stepBack_7 zn0 ?_
  refine z_ki eX6_stepBack_8 ?_
  refine z_is4 eX6_stepBack_9 zn0 ?_
  exact x_sb_s h _ H.1.1 H.1.2.2.1 mv hmv any hany G hG _ 0 h (Nat.zero_add _) zFr.rf (fun s hs => by omega)
def opX (mn : Nat) (G : Nat → Bool) (S n : Nat) (h : zHp) (v : Int) (h' : zHp) : Prop := (orF mn G S n = true → (1 : Int) = v ∧ zup (zup h 60 4 1) 60 5 (opn mn G S n) = h') ∧ (¬ orF mn G S n = true → (0 : Int) = v ∧ h = h')
theorem x_open_l (h : zHp) (D : Nat → Int) (hb : dB D) (h40 : h 4 0 = D 0) (S : Nat) (hS : S < 2 ^ nN D) (h41 : h 4 1 = (S : Int)) (mn : Nat) (hmn : mn < 256) (G : Nat → Bool) (hG : ∀ s : Nat, s < 2 ^ nN D → h 61 s = bI (G s)) (h0 : G S = false) : ∀ (r k : Nat), k + r = nN D → orF mn G S k = false → opF mn G S (nN D) 0 = opF mn G S r k → zRW mX6_open 0 (0, 0) 29 [zA 60, zI mn, zI k] [] 143 h (zqi (fun v h' => opX mn G S (nN D) h v h')) := by
  have hN := nN_eq hb
  have hN8 := nN_le hb
  have h256 := p2le hN8
  intro r
  induction r using Nat.strongRecOn with
  | ind r ih =>
    intro k hk hor hop
    refine z_il2 eX6_open_29 ?_
    refine z_al0 eX6_open_30 ?_
    refine z_ga eX6_open_31 fX6_22 zs60 (t := 4) rfl ?_
    refine z_gi eX6_open_34 fX6_57 zs4 ?_
    refine z_cge eX6_open_37 rfl (fun c37 => ?_) (fun c37 => ?_)
    · refine z_ki eX6_open_85 ?_
      refine ze_z eX6_open_86 rfl (by first | exact Or.inl rfl | exact Or.inr rfl) ?_
      have e : k = nN D := by omega
      subst e
      exact ⟨fun z => (by rw [hor] at z; cases z), fun _ => ⟨rfl, rfl⟩⟩
    · have hxl := xor_p2_lt hS (show k < nN D by omega)
      have hp2 := Nat.pow_le_pow_right (n := 2) (by omega) (show k ≤ 7 by omega)
      obtain ⟨q, rfl⟩ : ∃ q, r = q + 1 := ⟨r - 1, by omega⟩
      refine z_il1 eX6_open_40 ?_
      refine z_il2 eX6_open_41 ?_
      refine z_ishr eX6_open_42 ?_
      refine z_ki eX6_open_43 ?_
      refine z_iand eX6_open_44 ?_
      rw [kb_bit (by omega) (by omega)]
      refine z_ieq eX6_open_45 rfl (fun c45 => ?_) (fun c45 => ?_)
      · have z45 := iteF c45
        refine z_incN2 eX6_open_79 zn0 (by omega) (by omega) ?_
        refine z_goto eX6_open_82 rfl ?_
        have zn : ¬ (mn.testBit k = true ∧ G (S ^^^ 2 ^ k) = true) := fun z => z45 z.1
        exact ih q (by omega) (k + 1) (by omega) (by
          rw [orF, hor]
          by_cases z : mn.testBit k = true
          · rw [if_pos z, Bool.false_or]
            cases y : G (S ^^^ 2 ^ k) with
            | false => rfl
            | true => exact absurd ⟨z, y⟩ zn
          · rw [if_neg z]) (by rw [hop, opF, if_neg zn])
      · have z45 := iteT c45
        refine z_al0 eX6_open_48 ?_
        refine z_ga eX6_open_49 fX6_11 zs60 (t := 61) rfl ?_
        refine z_al0 eX6_open_52 ?_
        refine z_ga eX6_open_53 fX6_22 zs60 (t := 4) rfl ?_
        refine z_gi eX6_open_56 fX6_36 zs4 ?_
        refine z_ki eX6_open_59 ?_
        refine z_il2 eX6_open_60 ?_
        refine z_ishl eX6_open_61 ?_
        refine z_ixor eX6_open_62 ?_
        rw [h41, kb_shl1 (by omega), kb_xor (by omega) (by omega)]
        refine zr_zN eX6_open_63 zs61 (j := (S ^^^ 2 ^ k)) (by omega) (by omega) ?_
        rw [hG _ hxl]
        refine z_ieq eX6_open_64 rfl (fun c64 => ?_) (fun c64 => ?_)
        · refine z_incN2 eX6_open_79 zn0 (by omega) (by omega) ?_
          refine z_goto eX6_open_82 rfl ?_
          have zn : ¬ (mn.testBit k = true ∧ G (S ^^^ 2 ^ k) = true) := fun z => by have := bI_0 c64; rw [this] at z; exact absurd z.2 (by decide)
          exact ih q (by omega) (k + 1) (by omega) (by
            rw [orF, hor]
            by_cases z : mn.testBit k = true
            · rw [if_pos z, Bool.false_or]
              cases y : G (S ^^^ 2 ^ k) with
              | false => rfl
              | true => exact absurd ⟨z, y⟩ zn
            · rw [if_neg z]) (by rw [hop, opF, if_neg zn])
        · refine z_al0 eX6_open_67 ?_
          refine z_ki eX6_open_68 ?_
          refine z_pz eX6_open_69 pX6_66 zs60 (by first | exact Or.inl rfl | exact Or.inr rfl) ?_
          refine z_al0 eX6_open_72 ?_
          refine z_il2 eX6_open_73 ?_
          refine z_pi eX6_open_74 pX6_18 zs60 ?_
          refine z_ki eX6_open_77 ?_
          refine ze_z eX6_open_78 rfl (by first | exact Or.inl rfl | exact Or.inr rfl) ?_
          have y := bI_1 c64
          have ho : opF mn G S (nN D) 0 = (k : Int) := by rw [hop, opF, if_pos ⟨z45, y⟩]
          have hor2 : orF mn G S (nN D) = true := orF_up (k := k + 1) (by rw [orF, if_pos z45, y, Bool.or_true]) _ (by omega)
          exact ⟨fun _ => ⟨rfl, by unfold opn; rw [h0, if_neg (by decide), ho]⟩, fun z => absurd hor2 z⟩
theorem x_open (h : zHp) (D : Nat → Int) (hb : dB D) (h40 : h 4 0 = D 0) (S : Nat) (hS : S < 2 ^ nN D) (h41 : h 4 1 = (S : Int)) (mn : Nat) (hmn : mn < 256) (G : Nat → Bool) (hG : ∀ s : Nat, s < 2 ^ nN D → h 61 s = bI (G s)) : zCi mX6_open 0 [zA 60, zI mn] h (fun v h' => opX mn G S (nN D) h v h') := by
  refine z_enter [zA 60, zI mn, zU] (by decide +kernel) (Nat.le_of_ble_eq_true rfl) rfl (fun hra hrg => ?_)
  have h256 := p2_256 hb hS
  refine z_al0 eX6_open_0 ?_
  refine z_ga eX6_open_1 fX6_11 zs60 (t := 61) rfl ?_
  refine z_al0 eX6_open_4 ?_
  refine z_ga eX6_open_5 fX6_22 zs60 (t := 4) rfl ?_
  refine z_gi eX6_open_8 fX6_36 zs4 ?_
  refine zr_zN eX6_open_11 zs61 (j := S) (by omega) (by omega) ?_
  rw [hG S hS]
  refine z_ieq eX6_open_12 rfl (fun c12 => ?_) (fun c12 => ?_)
  · refine z_ki eX6_open_27 ?_
    refine z_is2 eX6_open_28 zn0 ?_
    exact x_open_l h D hb h40 S hS h41 mn hmn G hG (bI_0 c12) (nN D) 0 (Nat.zero_add _) (by rw [orF]; exact bI_0 c12) rfl
  · refine z_al0 eX6_open_15 ?_
    refine z_ki eX6_open_16 ?_
    refine z_pz eX6_open_17 pX6_66 zs60 (by first | exact Or.inl rfl | exact Or.inr rfl) ?_
    refine z_al0 eX6_open_20 ?_
    refine z_ki eX6_open_21 ?_
    refine z_pi eX6_open_22 pX6_18 zs60 ?_
    refine z_ki eX6_open_25 ?_
    refine ze_z eX6_open_26 rfl (by first | exact Or.inl rfl | exact Or.inr rfl) ?_
    have y := bI_1 c12
    have hor2 : orF mn G S (nN D) = true := orF_up (k := 0) (by rw [orF]; exact y) _ (by omega)
    exact ⟨fun _ => ⟨rfl, by unfold opn; rw [if_pos y]⟩, fun z => absurd hor2 z⟩
