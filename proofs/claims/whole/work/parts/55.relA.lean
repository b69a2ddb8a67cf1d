-- the relation behind tray, write, pour, feed, stand, voters
theorem trO {t : Nat} (ht : t < 4) : (∀ i, obc (67 + 2 * t) i = 0 ∨ obc (67 + 2 * t) i ∈ [1]) ∧ (∀ i, obc (68 + 2 * t) i = 0 ∨ obc (68 + 2 * t) i ∈ [1]) := ⟨fun i => Or.inr (by rw [(obc_tr ht i).1]; simp), fun i => Or.inr (by rw [(obc_tr ht i).2]; simp)⟩
theorem ex200 {L : List Nat} {h g : zHp} (e : zEx L h g) (hL : ¬ 10 ∈ L) : g 200 = h 200 ∧ g 201 = h 201 ∧ (nB h → nB g) := ⟨oc_fn (e 10 (by omega) (by omega) hL) (fun i => rfl), oc_fn (e 10 (by omega) (by omega) hL) (fun i => rfl), nB_oc (e 10 (by omega) (by omega) hL)⟩
set_option maxHeartbeats 4000000 in
theorem rel_tray {h h1 h2 : zHp} (H : Rel h) {t s n v v' : Int}
    (hx : (cTray t s n = 0 → (1 : Int) = v ∧ zup (zfill (zup (zup (zup h (67 + 2 * t.toNat) 0 1) (67 + 2 * t.toNat) 1 s) (67 + 2 * t.toNat) 2 n) (68 + 2 * t.toNat) 60 0) 0 0 0 = h1) ∧ (¬ cTray t s n = 0 → pX0 h (0, cTray t s n) v h1))
    (hm : (cTray t s n = 0 → (1 : Int) = v' ∧ zFr 120 (zup (zup (zup (zup h1 117 1 0) 117 0 0) 118 t.toNat s) 119 t.toNat n) h2 ∧ ∀ j : Nat, h2 120 j = if 60 * t.toNat ≤ j ∧ j < 60 * t.toNat + n.toNat then 0 else h1 120 j) ∧ (¬ cTray t s n = 0 → pM0 h1 (0, cTray t s n) v' h2)) : rOut h v v' h2 := by
  by_cases c : cTray t s n = 0
  · obtain ⟨⟨t0, t4, s0, s3⟩, n0, n60⟩ := cTray_ok c
    obtain ⟨rfl, rfl⟩ := hx.1 c
    obtain ⟨rfl, hfr, hnum⟩ := hm.1 c
    clear hx hm
    obtain ⟨t, rfl⟩ := Int.eq_ofNat_of_zero_le t0
    obtain ⟨n, rfl⟩ := Int.eq_ofNat_of_zero_le n0
    simp only [Int.toNat_natCast] at hfr hnum
    have ht : t < 4 := by omega
    have hT := trO ht
    have E : ∀ a i, ¬ a = 120 → h2 a i = zup (zup (zup (zup (zup (zfill (zup (zup (zup h (67 + 2 * t) 0 1) (67 + 2 * t) 1 s) (67 + 2 * t) 2 n) (68 + 2 * t) 60 0) 0 0 0) 117 1 0) 117 0 0) 118 t s) 119 t n a i := fun a i ha => by rw [hfr a ha]
    have L : zEx [1] h h2 := (((((((((zEx.rf.up (hT.1 0)).up (hT.1 1)).up (hT.1 2)).fr hT.2 (fun a ha => zfill_off ha)).up (Or.inl rfl)).up (Or.inl rfl)).up (Or.inl rfl)).up (Or.inr (List.mem_singleton.mpr rfl))).up (Or.inr (List.mem_singleton.mpr rfl))).fr (fun i => Or.inr (List.mem_singleton.mpr rfl)) hfr
    refine ⟨rfl, Rel.exL L ?_ H (fun _ => ?_) (by simp) (by simp) (by simp) (by simp) (by simp) (by simp) (by simp) (by simp), ex200 L (by simp)⟩
    · rw [E 0 0 (by decide), E 117 0 (by decide)]
      simp (disch := omega) only [zup_rd, zfill_rd, zcp_rd, if_pos, if_neg, and_true, true_and, ↓reduceIte]
    · intro t' ht'
      have Q := H.2.1 t' ht'
      by_cases e : t' = t
      · subst e
        have a3 : h2 118 t' = s := by rw [E 118 t' (by decide)]; simp (disch := omega) only [zup_rd, zfill_rd, zcp_rd, if_pos, if_neg, and_true, true_and, ↓reduceIte]
        have a4 : h2 119 t' = n := by rw [E 119 t' (by decide)]; simp (disch := omega) only [zup_rd, zfill_rd, zcp_rd, if_pos, if_neg, and_true, true_and, ↓reduceIte]
        have b0 : h2 (67 + 2 * t') 0 = 1 := by rw [E _ _ (by omega)]; simp (disch := omega) only [zup_rd, zfill_rd, zcp_rd, if_pos, if_neg, and_true, true_and, ↓reduceIte]
        have b1 : h2 (67 + 2 * t') 1 = s := by rw [E _ _ (by omega)]; simp (disch := omega) only [zup_rd, zfill_rd, zcp_rd, if_pos, if_neg, and_true, true_and, ↓reduceIte]
        have b2 : h2 (67 + 2 * t') 2 = n := by rw [E _ _ (by omega)]; simp (disch := omega) only [zup_rd, zfill_rd, zcp_rd, if_pos, if_neg, and_true, true_and, ↓reduceIte]
        rw [a3, a4, b0, b1, b2]
        refine ⟨by omega, by omega, (if_pos (by omega)).symm, fun _ => ⟨rfl, rfl, fun i hi => ?_⟩⟩
        rw [hnum, if_pos (by omega), E _ _ (by omega)]
        simp (disch := omega) only [zup_rd, zfill_rd, zcp_rd, if_pos, if_neg, and_true, true_and, ↓reduceIte]
      · have a3 : h2 118 t' = h 118 t' := by rw [E 118 t' (by decide)]; simp (disch := omega) only [zup_rd, zfill_rd, zcp_rd, if_pos, if_neg, and_true, true_and, ↓reduceIte]
        have a4 : h2 119 t' = h 119 t' := by rw [E 119 t' (by decide)]; simp (disch := omega) only [zup_rd, zfill_rd, zcp_rd, if_pos, if_neg, and_true, true_and, ↓reduceIte]
        have b1 : ∀ i, h2 (67 + 2 * t') i = h (67 + 2 * t') i := fun i => by rw [E _ _ (by omega)]; simp (disch := omega) only [zup_rd, zfill_rd, zcp_rd, if_pos, if_neg, and_true, true_and, ↓reduceIte]
        have b2 : ∀ i, h2 (68 + 2 * t') i = h (68 + 2 * t') i := fun i => by rw [E _ _ (by omega)]; simp (disch := omega) only [zup_rd, zfill_rd, zcp_rd, if_pos, if_neg, and_true, true_and, ↓reduceIte]
        have b3 : ∀ i : Nat, (i : Int) < h 119 t' → h2 120 (60 * t' + i) = h 120 (60 * t' + i) := fun i hi => by
          rw [hnum, if_neg (by omega)]
          simp (disch := omega) only [zup_rd, zfill_rd, zcp_rd, if_pos, if_neg, and_true, true_and, ↓reduceIte]
        rw [a3, a4, b1, b1, b1]
        refine ⟨Q.1, Q.2.1, Q.2.2.1, fun h0 => ⟨(Q.2.2.2 h0).1, (Q.2.2.2 h0).2.1, fun i hi => ?_⟩⟩
        rw [b2, b3 i hi]
        exact (Q.2.2.2 h0).2.2 i hi
  · exact H.tell2 (hx.2 c) (hm.2 c)
theorem cCell_cg {h g : zHp} (e : g 119 = h 119) (t k : Int) : cCell g t k = cCell h t k := by unfold cCell; rw [e]
theorem cPour_cg {h g : zHp} (e : g 119 = h 119) (e2 : g 118 = h 118) (t i u j n : Int) : cPour g t i u j n = cPour h t i u j n := by unfold cPour; rw [e, e2]
theorem rel_write {h h1 h2 : zHp} (H : Rel h) {t k x v v' : Int}
    (hx : (cCell h t k = 0 → (1 : Int) = v ∧ zup (zup h (68 + 2 * t.toNat) k.toNat (zcut (h 118 t.toNat) x)) 0 0 0 = h1) ∧ (¬ cCell h t k = 0 → pX0 h (0, cCell h t k) v h1))
    (hm : (cCell h1 t k = 0 → (1 : Int) = v' ∧ zup (zup (zup h1 117 1 0) 117 0 0) 120 (60 * t.toNat + k.toNat) (zcut (h1 118 t.toNat) x) = h2) ∧ (¬ cCell h1 t k = 0 → pM0 h1 (0, cCell h1 t k) v' h2)) : rOut h v v' h2 := by
  by_cases c : cCell h t k = 0
  · obtain ⟨⟨t0, t4⟩, q1, q2, q3⟩ := cCell_ok c
    obtain ⟨rfl, rfl⟩ := hx.1 c
    obtain ⟨t, rfl⟩ := Int.eq_ofNat_of_zero_le t0
    obtain ⟨k, rfl⟩ := Int.eq_ofNat_of_zero_le q2
    have ht : t < 4 := by omega
    simp only [Int.toNat_natCast] at hm q1 q3 ⊢
    obtain ⟨rfl, rfl⟩ := hm.1 (by rw [cCell_cg (by rw [zup_off (by omega), zup_off (by omega)])]; exact c)
    have hT := trO ht
    have h60 := (H.2.1 t ht).1
    have L : zEx [1] h (zup (zup (zup (zup (zup h (68 + 2 * t) k (zcut (h 118 t) x)) 0 0 0) 117 1 0) 117 0 0) 120 (60 * t + k) (zcut (zup (zup h (68 + 2 * t) k (zcut (h 118 t) x)) 0 0 0 118 t) x)) := ((((zEx.rf.up (hT.2 _)).up (Or.inl rfl)).up (Or.inl rfl)).up (Or.inl rfl)).up (Or.inr (List.mem_singleton.mpr rfl))
    refine ⟨rfl, Rel.exL L ?_ H (fun _ => ?_) (by simp) (by simp) (by simp) (by simp) (by simp) (by simp) (by simp) (by simp), ex200 L (by simp)⟩
    · simp (disch := omega) only [zup_rd, zfill_rd, zcp_rd, if_pos, if_neg, and_true, true_and, ↓reduceIte]
    · rw [show zup (zup h (68 + 2 * t) k (zcut (h 118 t) x)) 0 0 0 118 t = h 118 t by rw [zup_off (by omega), zup_off (by omega)]]
      generalize zcut (h 118 t) x = y
      intro t' ht'
      have Q := H.2.1 t' ht'
      have a3 : zup (zup (zup (zup (zup h (68 + 2 * t) k y) 0 0 0) 117 1 0) 117 0 0) 120 (60 * t + k) y 118 t' = h 118 t' := by simp (disch := omega) only [zup_rd, zfill_rd, zcp_rd, if_pos, if_neg, and_true, true_and, ↓reduceIte]
      have a4 : zup (zup (zup (zup (zup h (68 + 2 * t) k y) 0 0 0) 117 1 0) 117 0 0) 120 (60 * t + k) y 119 t' = h 119 t' := by simp (disch := omega) only [zup_rd, zfill_rd, zcp_rd, if_pos, if_neg, and_true, true_and, ↓reduceIte]
      have b1 : ∀ i, zup (zup (zup (zup (zup h (68 + 2 * t) k y) 0 0 0) 117 1 0) 117 0 0) 120 (60 * t + k) y (67 + 2 * t') i = h (67 + 2 * t') i := fun i => by simp (disch := omega) only [zup_rd, zfill_rd, zcp_rd, if_pos, if_neg, and_true, true_and, ↓reduceIte]
      rw [a3, a4, b1, b1, b1]
      refine ⟨Q.1, Q.2.1, Q.2.2.1, fun h0 => ⟨(Q.2.2.2 h0).1, (Q.2.2.2 h0).2.1, fun i hi => ?_⟩⟩
      have q := (Q.2.2.2 h0).2.2 i hi
      have qb := Q.1
      by_cases e : t' = t ∧ i = k
      · rw [e.1, e.2]
        simp (disch := omega) only [zup_rd, zfill_rd, zcp_rd, if_pos, if_neg, and_true, true_and, ↓reduceIte]
      · simp (disch := omega) only [zup_rd, zfill_rd, zcp_rd, if_pos, if_neg, and_true, true_and, ↓reduceIte]; exact q
  · have e119 : h1 119 = h 119 := (hx.2 c).2.2.1 119 (by omega)
    rw [cCell_cg e119] at hm
    exact H.tell2 (hx.2 c) (hm.2 c)
theorem rel_pour {h h1 h2 : zHp} (H : Rel h) {t i u j n v v' : Int}
    (hx : (cPour h t i u j n = 0 → (1 : Int) = v ∧ zup (zcp h (68 + 2 * t.toNat) i.toNat (68 + 2 * u.toNat) j.toNat n.toNat) 0 0 0 = h1) ∧ (¬ cPour h t i u j n = 0 → pX0 h (0, cPour h t i u j n) v h1))
    (hm : (cPour h1 t i u j n = 0 → (1 : Int) = v' ∧ zFr 120 (zup (zup h1 117 1 0) 117 0 0) h2 ∧ ∀ x : Nat, h2 120 x = if 60 * u.toNat + j.toNat ≤ x ∧ x < 60 * u.toNat + j.toNat + n.toNat then h1 120 (60 * t.toNat + i.toNat + (x - (60 * u.toNat + j.toNat))) else h1 120 x) ∧ (¬ cPour h1 t i u j n = 0 → pM0 h1 (0, cPour h1 t i u j n) v' h2)) : rOut h v v' h2 := by
  by_cases c : cPour h t i u j n = 0
  · obtain ⟨⟨⟨t0, t4⟩, u0, u4⟩, ⟨q1, q2⟩, q3, q4, q5, q6, q7, q8⟩ := cPour_ok c
    obtain ⟨rfl, rfl⟩ := hx.1 c
    obtain ⟨t, rfl⟩ := Int.eq_ofNat_of_zero_le t0
    obtain ⟨u, rfl⟩ := Int.eq_ofNat_of_zero_le u0
    obtain ⟨i, rfl⟩ := Int.eq_ofNat_of_zero_le q5
    obtain ⟨j, rfl⟩ := Int.eq_ofNat_of_zero_le q6
    obtain ⟨n, rfl⟩ := Int.eq_ofNat_of_zero_le q4
    have ht : t < 4 := by omega
    have hu : u < 4 := by omega
    simp only [Int.toNat_natCast] at hm q1 q2 q3 q7 q8 ⊢
    obtain ⟨rfl, hfr, hnum⟩ := hm.1 (by rw [cPour_cg (by rw [zup_off (by omega), zcp_off (by omega)]) (by rw [zup_off (by omega), zcp_off (by omega)])]; exact c)
    have hT := trO ht
    have hU := trO hu
    have h60 := (H.2.1 t ht).1
    have h61 := (H.2.1 u hu).1
    have L : zEx [1] h h2 := ((((zEx.rf.fr hU.2 (fun a ha => zcp_off ha)).up (Or.inl rfl)).up (Or.inl rfl)).up (Or.inl rfl)).fr (fun i => Or.inr (List.mem_singleton.mpr rfl)) hfr
    have E : ∀ a x, ¬ a = 120 → h2 a x = zup (zup (zup (zcp h (68 + 2 * t) i (68 + 2 * u) j n) 0 0 0) 117 1 0) 117 0 0 a x := fun a x ha => by rw [hfr a ha]
    refine ⟨rfl, Rel.exL L ?_ H (fun _ => ?_) (by simp) (by simp) (by simp) (by simp) (by simp) (by simp) (by simp) (by simp), ex200 L (by simp)⟩
    · rw [E 0 0 (by decide), E 117 0 (by decide)]
      simp (disch := omega) only [zup_rd, zfill_rd, zcp_rd, if_pos, if_neg, and_true, true_and, ↓reduceIte]
    · intro t' ht'
      have Q := H.2.1 t' ht'
      have QT := H.2.1 t ht
      have a3 : h2 118 t' = h 118 t' := by rw [E _ _ (by omega)]; simp (disch := omega) only [zup_rd, zfill_rd, zcp_rd, if_pos, if_neg, and_true, true_and, ↓reduceIte]
      have a4 : h2 119 t' = h 119 t' := by rw [E _ _ (by omega)]; simp (disch := omega) only [zup_rd, zfill_rd, zcp_rd, if_pos, if_neg, and_true, true_and, ↓reduceIte]
      have b1 : ∀ i, h2 (67 + 2 * t') i = h (67 + 2 * t') i := fun i => by rw [E _ _ (by omega)]; simp (disch := omega) only [zup_rd, zfill_rd, zcp_rd, if_pos, if_neg, and_true, true_and, ↓reduceIte]
      rw [a3, a4, b1, b1, b1]
      refine ⟨Q.1, Q.2.1, Q.2.2.1, fun h0 => ⟨(Q.2.2.2 h0).1, (Q.2.2.2 h0).2.1, fun x hx => ?_⟩⟩
      have q := (Q.2.2.2 h0).2.2 x hx
      have qb := Q.1
      rw [hnum, E _ _ (by omega)]
      by_cases e : t' = u ∧ j ≤ x ∧ x < j + n
      · obtain ⟨e1, e2⟩ := e
        subst e1
        have qt := (QT.2.2.2 q1).2.2 (i + (x - j)) (by omega)
        rw [if_pos (by omega), show 60 * t + i + (60 * t' + x - (60 * t' + j)) = 60 * t + (i + (x - j)) by omega]
        simp (disch := omega) only [zup_rd, zfill_rd, zcp_rd, if_pos, if_neg, and_true, true_and, ↓reduceIte]
        exact qt
      · rw [if_neg (by omega)]
        simp (disch := omega) only [zup_rd, zfill_rd, zcp_rd, if_pos, if_neg, and_true, true_and, ↓reduceIte]
        exact q
  · have e119 : h1 119 = h 119 := (hx.2 c).2.2.1 119 (by omega)
    have e118 : h1 118 = h 118 := (hx.2 c).2.2.1 118 (by omega)
    rw [cPour_cg e119 e118] at hm
    exact H.tell2 (hx.2 c) (hm.2 c)
theorem rel_feed {h h1 h2 : zHp} (H : Rel h) {n : Nat} (hn : h 117 8 = (n : Int)) {a b c d e v v' : Int}
    (hx : (n ≤ 680 → ((n + 20 : Nat) : Int) = v ∧ (tp 3 2 1 (tp 3 2 1 (tp 3 2 1 (tp 3 2 1 (tp 3 2 1 h (n) a 4) (n + 4) b 4) (n + 4 + 4) c 4) (n + 4 + 4 + 4) d 4) (n + 4 + 4 + 4 + 4) e 4) = h1) ∧ (¬ n ≤ 680 → (-1 : Int) = v ∧ h = h1))
    (hm : (n ≤ 680 → ((n + 20 : Nat) : Int) = v' ∧ (tp 121 117 8 (tp 121 117 8 (tp 121 117 8 (tp 121 117 8 (tp 121 117 8 (zup h1 117 1 0) (n) a 4) (n + 4) b 4) (n + 4 + 4) c 4) (n + 4 + 4 + 4) d 4) (n + 4 + 4 + 4 + 4) e 4) = h2) ∧ (¬ n ≤ 680 → (-1 : Int) = v' ∧ zup h1 117 1 0 = h2)) : rOut h v v' h2 := by
  obtain ⟨t1, t2, t3, t4, t5, t6⟩ := H.2.2.1
  by_cases q : n ≤ 680
  · obtain ⟨rfl, e1⟩ := hx.1 q
    obtain ⟨rfl, e2⟩ := hm.1 q
    have L1 : zEx [2] h h1 := by
      rw [← e1]
      exact tp_ex (fun _ => rfl) rfl (tp_ex (fun _ => rfl) rfl (tp_ex (fun _ => rfl) rfl (tp_ex (fun _ => rfl) rfl (tp_ex (fun _ => rfl) rfl zEx.rf))))
    have L : zEx [2] h h2 := by
      rw [← e2]
      exact tp_ex (fun _ => rfl) rfl (tp_ex (fun _ => rfl) rfl (tp_ex (fun _ => rfl) rfl (tp_ex (fun _ => rfl) rfl (tp_ex (fun _ => rfl) rfl (L1.up (Or.inl rfl))))))
    have f1 : ∀ a : Nat, a < 117 → h2 a = h1 a := fun a ha => by rw [← e2, tp_off (by omega) (by omega), tp_off (by omega) (by omega), tp_off (by omega) (by omega), tp_off (by omega) (by omega), tp_off (by omega) (by omega), zup_off (by omega)]
    have f2 : ∀ a : Nat, ¬ a = 3 → ¬ a = 2 → h1 a = h a := fun a ha hb => by rw [← e1, tp_off ha hb, tp_off ha hb, tp_off ha hb, tp_off ha hb, tp_off ha hb]
    have f3 : ∀ i : Nat, ¬ i = 1 → h1 2 i = h 2 i := fun i hi => by rw [← e1, tp_f (by decide) hi, tp_f (by decide) hi, tp_f (by decide) hi, tp_f (by decide) hi, tp_f (by decide) hi]
    have f4 : ∀ i : Nat, ¬ i = 8 → ¬ i = 1 → h2 117 i = h 117 i := fun i hi h1' => by rw [← e2, tp_f (by decide) hi, tp_f (by decide) hi, tp_f (by decide) hi, tp_f (by decide) hi, tp_f (by decide) hi, zup_ne (by omega), f2 117 (by decide) (by decide)]
    have g1 : h1 2 1 = ((n + 20 : Nat) : Int) := by rw [← e1, tp_n (by decide)] <;> omega
    have g2 : h2 117 8 = ((n + 20 : Nat) : Int) := by rw [← e2, tp_n (by decide)] <;> omega
    have g3 : ∀ i : Nat, i < n + 20 → h1 3 i = h2 121 i := by
      rw [← e2, ← e1]
      exact tp_eq e 4 (by decide) (by decide) (tp_eq d 4 (by decide) (by decide) (tp_eq c 4 (by decide) (by decide) (tp_eq b 4 (by decide) (by decide) (tp_eq a 4 (by decide) (by decide) (fun i hi => by rw [e1, zup_off (by decide), f2 121 (by decide) (by decide)]; exact t4 i (by omega))))))
    refine ⟨rfl, Rel.exL L ?_ H (by simp) (fun _ => ?_) (by simp) (by simp) (by simp) (by simp) (by simp) (by simp) (by simp), ex200 L (by simp)⟩
    · rw [f1 0 (by omega), f2 0 (by decide) (by decide), f4 0 (by decide) (by decide)]
      exact H.1
    · refine ⟨?_, ?_, ?_, fun i hi => ?_, ?_, ?_⟩
      · rw [f1 2 (by omega), g1, g2]
      · rw [g2]; omega
      · rw [g2]; omega
      · rw [f1 3 (by omega)]
        exact g3 i (by omega)
      · rw [f1 2 (by omega), f3 8 (by decide), f4 10 (by decide) (by decide)]; exact t5
      · rw [f1 2 (by omega), f3 9 (by decide), f4 11 (by decide) (by decide)]; exact t6
  · obtain ⟨rfl, rfl⟩ := hx.2 q
    obtain ⟨rfl, rfl⟩ := hm.2 q
    have L : zEx [] h (zup h 117 1 0) := zEx.rf.up (Or.inl rfl)
    exact ⟨rfl, Rel.ex L (by rw [zup_off (by decide), zup_ne (by decide)]; exact H.1) H, ex200 L (by simp)⟩
