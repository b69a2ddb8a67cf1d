-- act: the class's whole run (written by wip/tools/specF3.py)
theorem x_blk {h : zHp} {sp : Int} (hsp : h 32 2 = sp) (hs01 : sp = 0 ∨ sp = 1) {N : Nat} (hN : h 32 0 = (N : Int)) (hN80 : N ≤ 80) : ∀ (f d s t n m : Nat), blk h f d s t n m → m ≤ N → ∀ (S : aSt) (g : zHp) (k : Int), xS h (h 123) S g → aG S → S.cut = 0 → 0 ≤ k ∧ k ≤ 22 * S.dn + 100 → xGo h N n m S (exA h sp f s t S) g k := by
  intro f
  induction f with
  | zero =>
    intro d s t n m B hm S g k Hx G hc hk Q k1 k2
    unfold blk at B
    obtain ⟨-, rfl⟩ := B
    exact k1 g k hc Hx (fun _ _ => rfl) hk.1 (Int.le_refl _)
  | succ f ih =>
    intro d s t n m B hm S g k Hx G hc hk
    by_cases hs : s < t
    · have hst := (blk_st B hs).1
      have B0 := B
      unfold blk at B
      rcases B with B | ⟨h1, h2, h3, B⟩
      · omega
      · have simple : h 126 s < 5 → stN2 h s n n → h 129 s = (s : Int) + 1 → blk h f d (s + 1) t (n + 1) m → xGo h N n m S (exA h sp (f + 1) s t S) g k := fun h5 hn e B' => by
          rw [exA, if_pos ⟨hs, hc⟩, show h 129 s = ((s + 1 : Nat) : Int) by omega, Int.toNat_natCast]
          refine (x_go1 hsp hs01 hN (by omega) hst hn h5 (exA h sp f (s + 1) (s + 1)) Hx G hc hk).tr (fun c => exA_stop (fun z => c z.2) f) (fun g' k' c0 x0 r0 p0 q0 => ?_) (by omega)
          exact ih d (s + 1) t (n + 1) m B' hm _ g' k' x0 (ex1_G hst (fun S2 G2 => by rw [exA_stop (by omega)]; exact G2) G) c0 ⟨p0, by omega⟩
        rcases B with ⟨q1, q2, q3, q4, q5⟩ | ⟨q1, q2, q3, q4, q5, q6, q7, q8, q9, q10⟩ | ⟨q1, q2, q3, q4, q5, q6⟩ | ⟨q1, q2, q3, q4, d', s', e, w1, w2, w3, w4, w5, w6, w7, w8, w9, w10, w11⟩
        · exact simple (by omega) ⟨by omega, by omega, h3, fun _ => q3, fun z => by omega, fun z => by omega, fun z => by omega, fun z => by omega⟩ q4 q5
        · exact simple (by omega) ⟨by omega, by omega, h3, fun z => by omega, fun _ _ => q3, fun _ _ => q6, fun z => by omega, fun z => by omega⟩ q9 q10
        · exact simple (by omega) ⟨by omega, by omega, h3, fun z => by omega, fun _ _ => q2, fun _ z => by omega, fun z => by omega, fun z => by omega⟩ q5 q6
        · have hn : stN2 h s n e := ⟨by omega, by omega, h3, fun z => by omega, fun _ z => (q3 (by omega)).1, fun _ z => by omega, fun z => ⟨(q4 z).1, (q4 z).2.1⟩, fun _ => w9⟩
          have hbG : ∀ S2, aG S2 → aG (exA h sp f (s + 1) s' S2) := fun S2 G2 => exA_G f d' (s + 1) s' (n + 1) e w10 S2 G2
          rw [exA, if_pos ⟨hs, hc⟩, w6, Int.toNat_natCast]
          refine (x_gob hsp hs01 hN (by omega) (by omega) w4 hst hn q1 w7 w8 (exA h sp f (s + 1) s') hbG (fun S2 g2 k2 x2 G2 c2 hk2 => ih d' (s + 1) s' (n + 1) e w10 (by omega) S2 g2 k2 x2 G2 c2 hk2) Hx G hc hk).tr (fun c => exA_stop (fun z => c z.2) f) (fun g' k' c0 x0 r0 p0 q0 => ?_) (by omega)
          exact ih d s' t (e + 1) m w11 hm _ g' k' x0 (ex1_G hst hbG G) c0 ⟨p0, by omega⟩
    · have en : n = m := by
        unfold blk at B
        rcases B with B | B
        · exact B.2
        · omega
      subst en
      rw [exA_stop (fun z => hs z.1)]
      intro Q k1 k2
      exact k1 g k hc Hx (fun _ _ => rfl) hk.1 (Int.le_refl _)
def aS0 (D : Nat → Int) : aSt := aSt.mk D 0 0 0 0 0
theorem x_end (h : zHp) (N : Nat) (hN : h 32 0 = (N : Int)) (Q : Int → zHp → Prop) (g : zHp) (hg : g 32 = h 32) (dn k : Int) (hk : 0 ≤ k ∧ k < 999999) (hq : Q dn g) : zRW mX3_run 7 (0, 0) 31 [zA 65, zI dn, zI N, zI k] [] 143 g (zqi Q) := by
  refine z_il3 eX3_run_31 ?_
  refine z_ki eX3_run_32 ?_
  refine z_cge eX3_run_34 rfl (fun c34 => ?_) (fun c34 => ?_)
  · exfalso; omega
  · refine z_il2 eX3_run_37 ?_
    refine z_ilt eX3_run_38 rfl (fun c38 => ?_) (fun c38 => ?_)
    · exfalso; omega
    · refine z_il2 eX3_run_41 ?_
      refine z_al0 eX3_run_42 ?_
      refine z_ga eX3_run_43 fX3_17 zs65 (t := 32) rfl ?_
      refine z_gi eX3_run_46 fX3_47 zs32 ?_
      rw [hg, hN]
      refine z_cge eX3_run_49 rfl (fun c49 => ?_) (fun c49 => ?_)
      · refine z_il1 eX3_run_127 ?_
        refine ze_i eX3_run_128 rfl ?_
        exact hq
      · exfalso; omega
theorem x_runA (h : zHp) (H : rHR h) (sp : Int) (hsp : h 32 2 = sp) (hs01 : sp = 0 ∨ sp = 1) (t N : Nat) (hN : h 32 0 = (N : Int)) (hN80 : N ≤ 80) (B : blk h 40 3 0 t 0 N) : zCi mX3_run 7 [zA 65] h (fun v h' => (exA h sp 40 0 t (aS0 (h 122))).dn = v ∧ xS h (h 123) (exA h sp 40 0 t (aS0 (h 122))) h') := by
  refine z_enter [zA 65, zU, zU, zU] (by decide +kernel) (Nat.le_of_ble_eq_true rfl) rfl (fun hra hrg => ?_)
  refine z_al0 eX3_run_0 ?_
  refine z_ki eX3_run_1 ?_
  refine z_pz eX3_run_2 pX3_29 zs65 (by omega) ?_
  refine z_al0 eX3_run_5 ?_
  refine z_ki eX3_run_6 ?_
  refine z_pi eX3_run_7 pX3_33 zs65 ?_
  refine z_al0 eX3_run_10 ?_
  refine z_ki eX3_run_11 ?_
  refine z_pi eX3_run_12 pX3_37 zs65 ?_
  refine z_al0 eX3_run_15 ?_
  refine z_ki eX3_run_16 ?_
  refine z_pi eX3_run_17 pX3_40 zs65 ?_
  refine z_al0 eX3_run_20 ?_
  refine z_ki eX3_run_21 ?_
  refine z_pz eX3_run_22 pX3_43 zs65 (by omega) ?_
  refine z_ki eX3_run_25 ?_
  refine z_is1 eX3_run_26 zn2 ?_
  refine z_ki eX3_run_27 ?_
  refine z_is2 eX3_run_28 zn0 ?_
  refine z_ki eX3_run_29 ?_
  refine z_is3 eX3_run_30 zn0 ?_
  have hx0 : xS h (h 123) (aS0 (h 122)) (zup (zup (zup (zup (zup h 65 4 1) 65 5 0) 65 6 0) 65 7 0) 65 8 0) := by
    refine ⟨HR_fr (HR_r H) (fun b hb => by rw [zup_off (by omega), zup_off (by omega), zup_off (by omega), zup_off (by omega), zup_off (by omega)]), ?_, ?_, ?_, ?_, zup_at _ _ _ _, fun a a1 a2 a3 a4 a5 a6 => by rw [zup_off a5, zup_off a5, zup_off a5, zup_off a5, zup_off a5]⟩
    · rw [zup_ne (by decide), zup_ne (by decide), zup_ne (by decide), zup_ne (by decide), zup_at]
    · rw [zup_ne (by decide), zup_ne (by decide), zup_ne (by decide), zup_at]; rfl
    · rw [zup_ne (by decide), zup_ne (by decide), zup_at]; rfl
    · rw [zup_ne (by decide), zup_at]; rfl
  have hg0 : aG (aS0 (h 122)) := ⟨⟨H.1.1, H.1.2.1⟩, ⟨Int.le_refl _, by show (0 : Int) ≤ 200; omega⟩, Or.inl rfl, ⟨Int.le_refl _, Int.le_refl _⟩, ⟨Int.le_refl _, Int.le_refl _⟩, ⟨Int.le_refl _, Int.le_refl _⟩⟩
  have hGf := exA_G (sp := sp) 40 3 0 t 0 N B _ hg0
  have hGd := hGf.2.1
  refine x_blk hsp hs01 hN hN80 40 3 0 t 0 N B (Nat.le_refl _) (aS0 (h 122)) _ 0 hx0 hg0 rfl ⟨Int.le_refl _, by show (0 : Int) ≤ 22 * 0 + 100; omega⟩ _ (fun g' k' c0 x0 r0 p0 q0 => ?_) (fun g' c0 x0 => ⟨rfl, x0⟩)
  have q1 : k' - 22 * (exA h sp 40 0 t (aS0 (h 122))).dn ≤ 0 - 22 * 0 := q0
  exact x_end h N hN _ g' (xS_o x0 (by omega)) _ k' (by omega) ⟨rfl, x0⟩
