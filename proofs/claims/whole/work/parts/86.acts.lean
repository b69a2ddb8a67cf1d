-- act: the reference (written by wip/tools/specE7.py)
theorem blk_in {h : zHp} {f d s t n m : Nat} (B : blk h (f + 1) d s t n m) (hs : s < t) : ∃ s' : Nat, h 129 s = (s' : Int) ∧ s < s' ∧ s' ≤ t ∧ (∃ n' : Nat, blk h f d s' t n' m) ∧ ((5 ≤ h 126 s ∧ ∃ d' n1 m1 : Nat, d = d' + 1 ∧ blk h f d' (s + 1) s' n1 m1) ∨ (h 126 s < 5 ∧ s' = s + 1)) := by
  unfold blk at B
  rcases B with B | ⟨h1, h2, h3, B⟩
  · omega
  · rcases B with ⟨q1, q2, q3, q4, q5⟩ | ⟨q1, q2, q3, q4, q5, q6, q7, q8, q9, q10⟩ | ⟨q1, q2, q3, q4, q5, q6⟩ | ⟨q1, q2, q3, q4, d', s', e', w1, w2, w3, w4, w5, w6, w7, w8, w9, w10, w11⟩
    · exact ⟨s + 1, by omega, by omega, by omega, ⟨_, q5⟩, Or.inr ⟨by omega, rfl⟩⟩
    · exact ⟨s + 1, by omega, by omega, by omega, ⟨_, q10⟩, Or.inr ⟨by omega, rfl⟩⟩
    · exact ⟨s + 1, by omega, by omega, by omega, ⟨_, q6⟩, Or.inr ⟨by omega, rfl⟩⟩
    · exact ⟨s', w6, w2, w3, ⟨_, w11⟩, Or.inl ⟨q1, d', _, _, w1, w10⟩⟩
theorem blk_pos {h : zHp} {f d s t n m : Nat} (B : blk h f d s t n m) (hs : s < t) : ∃ f' : Nat, f = f' + 1 := by
  cases f with
  | zero => unfold blk at B; omega
  | succ f => exact ⟨f, rfl⟩
theorem exA_stop {h : zHp} {sp : Int} {s t : Nat} {S : aSt} (hq : ¬ (s < t ∧ S.cut = 0)) (f : Nat) : exA h sp f s t S = S := by
  cases f with
  | zero => rfl
  | succ f => rw [exA, if_neg hq]
theorem exA_G {h : zHp} {sp : Int} : ∀ (f d s t n m : Nat), blk h f d s t n m → ∀ S, aG S → aG (exA h sp f s t S) := by
  intro f
  induction f with
  | zero => intro d s t n m _ S G; exact G
  | succ f ih =>
    intro d s t n m B S G
    rw [exA]
    split
    · next q =>
      obtain ⟨s', e, e1, e2, ⟨n', B'⟩, C⟩ := blk_in B q.1
      rw [e, Int.toNat_natCast]
      refine ih d s' t n' m B' _ (ex1_G (blk_st B q.1).1 (fun S2 G2 => ?_) G)
      rcases C with ⟨-, d', n1, m1, -, B1⟩ | ⟨-, e3⟩
      · exact ih d' (s + 1) s' n1 m1 B1 S2 G2
      · rw [exA_stop (by omega)]; exact G2
    · exact G
theorem r_doAll_c (h : zHp) (s t : Nat) (T : aSt) (kk : Nat) (g : zHp) (hl : zRW mX12_doAll kk (0, 0) 2 [zA 117, zI s, zI t, zI s] [] 143 g (zqv (fun h' => mS h T h'))) : zCv mX12_doAll kk [zA 117, zI s, zI t] g (fun h' => mS h T h') := by
  refine z_enter [zA 117, zI s, zI t, zU] (by decide +kernel) (Nat.le_of_ble_eq_true rfl) rfl (fun hra hrg => ?_)
  refine z_il1 eX12_doAll_0 ?_
  refine z_is3 eX12_doAll_1 zn0 ?_
  exact hl
theorem r_doAll_l (h : zHp) (sp : Int) (hsp : h 117 33 = sp) (hs01 : sp = 0 ∨ sp = 1) : ∀ (f d s t n m : Nat), blk h f d s t n m → s ≤ 40 → t ≤ 40 → ∀ (s0 : Nat) (g : zHp) (S : aSt), mS h S g → aG S → zRW mX12_doAll (10 * (d + 1)) (0, 0) 2 [zA 117, zI s0, zI t, zI s] [] 143 g (zqv (fun h' => mS h (exA h sp f s t S) h')) := by
  intro f
  induction f using Nat.strongRecOn with
  | ind f ih =>
    intro d s t n m B hs40 ht40 s0 g S Hm G
    obtain ⟨-, m122, ⟨m1, m2, m3, m4, m5⟩, m6, m7⟩ := id Hm
    refine z_il3 eX12_doAll_2 ?_
    refine z_il2 eX12_doAll_3 ?_
    refine z_cge eX12_doAll_4 rfl (fun c4 => ?_) (fun c4 => ?_)
    · refine ze_v eX12_doAll_29 rfl ?_
      rw [exA_stop (fun z => by omega)]
      exact Hm
    · refine z_al0 eX12_doAll_7 ?_
      refine z_gi eX12_doAll_8 fX12_517 zs117 ?_
      rw [m2]
      refine z_ine eX12_doAll_11 rfl (fun c11 => ?_) (fun c11 => ?_)
      · refine ze_v eX12_doAll_29 rfl ?_
        rw [exA_stop (fun z => c11 z.2)]
        exact Hm
      · obtain ⟨f, rfl⟩ := blk_pos B (by omega)
        obtain ⟨s', e, e1, e2, ⟨n', B'⟩, C⟩ := blk_in B (by omega)
        have hbG : ∀ S2, aG S2 → aG (exA h sp f (s + 1) s' S2) := fun S2 G2 => by
          rcases C with ⟨-, d', n1, m1, -, B1⟩ | ⟨-, e3⟩
          · exact exA_G f d' (s + 1) s' n1 m1 B1 S2 G2
          · rw [exA_stop (by omega)]; exact G2
        have hbody : 5 ≤ h 126 s → ∀ (g : zHp) (S : aSt), mS h S g → aG S → zCv mX12_doAll (10 * d) [zA 117, zI ((s : Int) + 1), zI s'] g (fun h' => mS h (exA h sp f (s + 1) s' S) h') := fun h5 g S Hm G => by
          rcases C with ⟨-, d', n1, m1, ed, B1⟩ | ⟨e3, -⟩
          · subst ed
            exact r_doAll_c h (s + 1) s' _ _ g (ih f (by omega) d' (s + 1) s' n1 m1 B1 (by omega) (by omega) (s + 1) g S Hm G)
          · omega
        refine z_al0 eX12_doAll_14 ?_
        refine z_il3 eX12_doAll_15 ?_
        refine zc_vv1 eX12_doAll_16 lX12_520 tX12_doOne zs117 (by omega) (Nat.le_of_ble_eq_true rfl) (r_doOne h sp hsp hs01 s s' (by omega) (blk_st B (by omega)).1 e (10 * d) (exA h sp f (s + 1) s') hbG hbody g S Hm G) ?_
        rintro g2 Hm2
        refine z_al0 eX12_doAll_19 ?_
        refine z_ga eX12_doAll_20 fX12_56 zs117 (t := 129) rfl ?_
        refine z_il3 eX12_doAll_23 ?_
        refine zr_iN eX12_doAll_24 zs129 (j := s) (by omega) (by omega) ?_
        rw [show g2 129 = h 129 from Hm2.2.2.2.1 129 (by decide) (by decide) (by decide) (by decide), e]
        refine z_is3 eX12_doAll_25 zn0 ?_
        refine z_goto eX12_doAll_26 rfl ?_
        rw [exA, if_pos ⟨by omega, c11⟩, e, Int.toNat_natCast]
        exact ih f (by omega) d s' t n' m B' (by omega) ht40 s0 g2 _ Hm2 (ex1_G (blk_st B (by omega)).1 hbG G)
