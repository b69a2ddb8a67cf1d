-- act: what holds after it (written by wip/tools/specF5.py)
def inD (S T : aSt) : Prop := ∀ j : Nat, ¬ j = 2 → ¬ (20 ≤ j ∧ j < 60) → T.D j = S.D j
theorem cN_in {sp k w : Int} : ∀ (n : Nat) (S : aSt), dB S.D ∧ S.D 2 < ((2 ^ nN S.D : Nat) : Int) → inD S (cN sp k w n S) := by
  intro n
  induction n with
  | zero => intro S hd j _ _; rfl
  | succ n ih =>
    intro S hd
    by_cases ok : okC sp k w S
    · rw [cN_s ok]
      have u := uD_dB hd.1 hd.2 ok.1 ok.2.1
      have q := ih (c1 sp k w S) ⟨u.1, by show uD k w.toNat S.D 2 < ((2 ^ nN (uD k w.toNat S.D) : Nat) : Int); rw [u.2.1]; exact u.2.2⟩
      intro j j1 j2
      exact (q j j1 j2).trans (uD_lo j1 j2 (th_w hd.1 ok.1).1)
    · rw [cN_no ok]
      intro j _ _
      rfl
theorem utF_in {so : aSt → Int} {body : aSt → aSt} (hb : ∀ S, aG S → aG (body S)) (hi : ∀ S, aG S → inD S (body S)) : ∀ (n : Nat) (S : aSt), aG S → inD S (utF so body n S) := by
  intro n
  induction n with
  | zero => intro S G j _ _; rfl
  | succ n ih =>
    intro S G
    rw [utF]
    split
    · intro j j1 j2
      exact (ih _ (hb S G) j j1 j2).trans (hi S G j j1 j2)
    · intro j _ _
      rfl
theorem ex1_in {h : zHp} {sp : Int} {body : aSt → aSt} {s : Nat} (hb : ∀ S, aG S → aG (body S)) (hi : ∀ S, aG S → inD S (body S)) {S : aSt} (G : aG S) : inD S (ex1 h sp body s S) := by
  unfold ex1
  split
  · intro j _ _; rfl
  · next hd =>
    have G1 := inc1_G G hd
    unfold ex2
    split
    · exact cN_in _ (inc1 S) G.1
    · split
      · exact cN_in _ (inc1 S) G.1
      · split
        · intro j _ _; rfl
        · split
          · rw [rpF_ut]; exact utF_in hb hi _ _ G1
          · split
            · split
              · exact hi (inc1 S) G1
              · intro j _ _; rfl
            · exact utF_in hb hi _ _ G1
theorem exA_in {h : zHp} {sp : Int} : ∀ (f d s t n m : Nat), blk h f d s t n m → ∀ S, aG S → inD S (exA h sp f s t S) := by
  intro f
  induction f with
  | zero => intro d s t n m _ S G j _ _; rfl
  | succ f ih =>
    intro d s t n m B S G
    rw [exA]
    split
    · next q =>
      obtain ⟨s', e, e1, e2, ⟨n', B'⟩, C⟩ := blk_in B q.1
      rw [e, Int.toNat_natCast]
      have hbG : ∀ S2, aG S2 → aG (exA h sp f (s + 1) s' S2) := fun S2 G2 => by
        rcases C with ⟨-, d', n1, m1, -, B1⟩ | ⟨-, e3⟩
        · exact exA_G f d' (s + 1) s' n1 m1 B1 S2 G2
        · rw [exA_stop (by omega)]; exact G2
      have hbI : ∀ S2, aG S2 → inD S2 (exA h sp f (s + 1) s' S2) := fun S2 G2 => by
        rcases C with ⟨-, d', n1, m1, -, B1⟩ | ⟨-, e3⟩
        · exact ih d' (s + 1) s' n1 m1 B1 S2 G2
        · rw [exA_stop (by omega)]
          intro j _ _
          rfl
      have G2 := ex1_G (sp := sp) (blk_st B q.1).1 hbG G
      intro j j1 j2
      exact (ih d s' t n' m B' _ G2 j j1 j2).trans (ex1_in hbG hbI G j j1 j2)
    · intro j _ _
      rfl
theorem rel_act {h h1 h2 : zHp} (H : Rel h) {v v' : Int} {T : aSt} (hT : inD (aS0 (h 122)) T) (hx : T.dn = v ∧ ∃ g, xS h (h 123) T g ∧ zup g 0 0 0 = h1)
    (hm : T.dn = v' ∧ ∃ g0 : zHp, (∀ a : Nat, ¬ a = 117 → g0 a = h1 a) ∧ (∀ i : Nat, ¬ i = 0 → ¬ i = 1 → ¬ (28 ≤ i ∧ i ≤ 32) → ¬ i = 35 → g0 117 i = h1 117 i) ∧ g0 117 35 = 1 ∧ g0 117 0 = 0 ∧ mS g0 T h2) : rOut h v v' h2 := by
  obtain ⟨v1, g, ⟨X0, x4, x5, x6, x7, x8, xo⟩, e1⟩ := hx
  obtain ⟨v2, g0, go, gi, g35, g00, ⟨-, m122, ⟨m1, m2, m3, m4, m5⟩, m6, m7⟩⟩ := hm
  have a1 : ∀ a : Nat, ¬ a = 117 → ¬ a = 122 → ¬ a = 124 → ¬ a = 125 → ¬ a = 0 → h2 a = g a := fun a p1 p2 p3 p4 p5 => by rw [m6 a p1 p2 p3 p4, go a p1, ← e1, zup_off p5]
  have a0 : ∀ i : Nat, ¬ i = 0 → h2 0 i = h 0 i := fun i hi => by rw [m6 0 (by decide) (by decide) (by decide) (by decide), go 0 (by decide), ← e1, zup_ne (by omega), xo 0 (by decide) (by decide) (by decide) (by decide) (by decide) (by decide)]
  have a00 : h2 0 0 = 0 := by rw [m6 0 (by decide) (by decide) (by decide) (by decide), go 0 (by decide), ← e1, zup_at]
  have a7 : ∀ i : Nat, ¬ i = 0 → ¬ i = 1 → ¬ i = 25 → ¬ (28 ≤ i ∧ i ≤ 32) → ¬ i = 35 → h2 117 i = h 117 i := fun i p0 p1 p2 p3 p4 => by rw [m7 i p2 p3, gi i p0 p1 p3 p4, ← e1, zup_off (by decide), xo 117 (by decide) (by decide) (by decide) (by decide) (by decide) (by decide)]
  have ao : ∀ a : Nat, ¬ a = 117 → ¬ a = 122 → ¬ a = 124 → ¬ a = 125 → ¬ a = 0 → ¬ a = 4 → ¬ a = 9 → ¬ a = 10 → ¬ a = 51 → ¬ a = 65 → ¬ a = 66 → h2 a = h a := fun a p1 p2 p3 p4 p5 p6 p7 p8 p9 p10 p11 => (a1 a p1 p2 p3 p4 p5).trans (xo a p6 p7 p8 p9 p10 p11)
  have z0 : h2 117 0 = 0 := (m7 0 (by decide) (by decide)).trans g00
  refine ⟨v1.symm.trans v2, Rel.exL (L := [5, 7]) ?_ (a00.trans z0.symm) H (fun q => absurd q (by decide)) (fun q => absurd q (by decide)) (fun q => absurd q (by decide)) (fun q => absurd q (by decide)) (fun _ => ?_) (fun q => absurd q (by decide)) (fun _ => ?_) (fun q => absurd q (by decide)) (fun q => absurd q (by decide)), ao 200 (by decide) (by decide) (by decide) (by decide) (by decide) (by decide) (by decide) (by decide) (by decide) (by decide) (by decide), ao 201 (by decide) (by decide) (by decide) (by decide) (by decide) (by decide) (by decide) (by decide) (by decide) (by decide) (by decide), fun q => nB_cg (fun j hj => by rw [m122]; exact hT j (by omega) (by omega)) q⟩
  · intro c c1 c2 cL a i hai
    have c5 : ¬ c = 5 := fun z => cL (by rw [z]; decide)
    have c7 : ¬ c = 7 := fun z => cL (by rw [z]; decide)
    by_cases p1 : a = 117
    · subst p1
      have hq : (if i = 2 ∨ i = 3 then 9 else if i = 8 ∨ i = 10 ∨ i = 11 then 2 else if i = 22 then 6 else if i = 26 ∨ i = 33 then 8 else if i = 29 ∨ i = 30 ∨ i = 31 ∨ i = 32 ∨ i = 35 then 7 else if i = 49 ∨ i = 50 ∨ i = 51 ∨ i = 52 then 3 else if i = 61 ∨ i = 62 then 4 else 0) = c := hai
      clear hai
      refine a7 i ?_ ?_ ?_ ?_ ?_ <;> (intro z; (repeat' split at hq) <;> omega)
    · by_cases p2 : a = 122
      · subst p2
        have hq : (if i < 300 then 5 else if i < 1200 then 6 else 10) = c := hai
        have : ¬ i < 300 := fun z => by rw [if_pos z] at hq; omega
        rw [m122]
        exact hT i (by omega) (by omega)
      · by_cases p3 : a = 0
        · subst p3
          have hq : (if i = 11 then 6 else 0) = c := hai
          exact a0 i (fun z => by rw [if_neg (by omega)] at hq; omega)
        · have n5 : ∀ b : Nat, a = b → obc b i = c := fun b e => e ▸ hai
          have d4 : ¬ a = 4 := fun z => c5 (n5 4 z).symm
          have d9 : ¬ a = 9 := fun z => c5 (n5 9 z).symm
          have d10 : ¬ a = 10 := fun z => c5 (n5 10 z).symm
          have d51 : ¬ a = 51 := fun z => by have q : (0 : Nat) = c := n5 51 z; omega
          have d66 : ¬ a = 66 := fun z => by have q : (0 : Nat) = c := n5 66 z; omega
          have d124 : ¬ a = 124 := fun z => by have q : (0 : Nat) = c := n5 124 z; omega
          have d125 : ¬ a = 125 := fun z => by have q : (0 : Nat) = c := n5 125 z; omega
          have d65 : ¬ a = 65 := fun z => by
            have q := n5 65 z
            unfold obc at q
            (repeat' split at q) <;> omega
          rw [ao a p1 p2 d124 d125 p3 d4 d9 d10 d51 d65 d66]
  · show HR h2 (h2 122) (h2 123)
    rw [m122, ao 123 (by decide) (by decide) (by decide) (by decide) (by decide) (by decide) (by decide) (by decide) (by decide) (by decide) (by decide)]
    exact HR_fr X0 (fun b hb => a1 b (by omega) (by omega) (by omega) (by omega) (by omega))
  · have b5 : h2 65 = g 65 := a1 65 (by decide) (by decide) (by decide) (by decide) (by decide)
    have b35 : h2 117 35 = 1 := (m7 35 (by decide) (by decide)).trans g35
    unfold rActed
    rw [b5, b35, x4, x5, x6, x7, x8, m2, m3, m4, m5]
    exact ⟨rfl, fun _ => ⟨rfl, rfl, rfl, rfl⟩⟩
