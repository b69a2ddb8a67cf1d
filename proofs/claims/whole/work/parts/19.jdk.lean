-- the JDK's own methods (written by wip/tools/specJ.py)
def popc (s : Nat) : Int := (List.range 8).foldl (fun a k => a + if s.testBit k then 1 else 0) 0
def zfill (h : zHp) (a n : Nat) (x : Int) : zHp := fun a' i => if a' = a ∧ i < n then x else h a' i
theorem zfill_0 (h : zHp) (a : Nat) (x : Int) : zfill h a 0 x = h := by
  funext a' i
  simp [zfill]
theorem zfill_s (h : zHp) (a n : Nat) (x : Int) : zup (zfill h a n x) a n x = zfill h a (n + 1) x := by
  funext a' i
  unfold zup zfill
  by_cases h1 : a' = a
  · by_cases h2 : i = n
    · simp [h1, h2]
    · by_cases h3 : i < n
      · rw [if_neg (by omega), if_pos ⟨h1, h3⟩, if_pos ⟨h1, by omega⟩]
      · rw [if_neg (by omega), if_neg (by omega), if_neg (by omega)]
  · simp [h1]
theorem zfill_off {h : zHp} {a n : Nat} {x : Int} {a' : Nat} (hn : ¬ a' = a) : zfill h a n x a' = h a' := by
  funext i
  simp [zfill, hn]
theorem zfill_on {h : zHp} {a n : Nat} {x : Int} {i : Nat} (hn : i < n) : zfill h a n x a i = x := by simp [zfill, hn]
theorem z_max {M : zM} {k : Nat} {b : Nat × Nat} {pc pc' idx : Nat} {ls st : List zV} {n : Nat} {h : zHp} {Q : Option zV → Nat → zHp → Prop} {x y : Int} (hd : zDC M pc (.invokestatic idx) 3 pc') (hl' : zLk M.1.cls idx mJ9_max_7cf53) (hk1 : 1 ≤ k) (hsz : zSz st ≤ 8) (kk : zRW M k b pc' ls (zI (max x y) :: st) n h Q) : zRW M k b pc ls (zI y :: zI x :: st) n h Q := by
  intro G d mc ms p l e s m args below meth c H locs cells slots lr hk C hl hst hH hS hc1 hc2 hz
  obtain ⟨hdec, rfl⟩ := hd
  have hx : z32 x := hst (zI x) (by simp)
  have hy : z32 y := hst (zI y) (by simp)
  refine va_mmax C.1 C.2.1 (C.2.2.1.trans hl.1.symm) C.2.2.2.2.2.1 (C.2.2.2.2.2.2.2.1 _ hl') (C.2.2.2.2.2.2.2.1 _ tJ9_max_7cf53.1) (C.2.2.2.2.2.2.2.1 _ tJ9_max_7cf53.2.1) (C.2.2.2.2.2.2.2.1 _ tJ9_max_7cf53.2.2.1) (show 1 ≤ d by omega) (by rw [zSz_eq]; show zSz st + 13 ≤ 64 * d; omega) (show cells ≤ mc by omega) (show slots ≤ ms by omega) hdec ?_
  have e1 : (if Int32.ofInt x < Int32.ofInt y then Int32.ofInt y else Int32.ofInt x) = Int32.ofInt (max x y) := by
    by_cases q : x < y
    · rw [if_pos ((z32_lt hx hy).mpr q)]
      congr 1
      omega
    · rw [if_neg (fun q' => q ((z32_lt hx hy).mp q'))]
      congr 1
      omega
  first | rw [e1] | (simp only [gt_iff_lt] at e1 ⊢; rw [e1])
  exact kk G d mc ms p l e s m args below meth c H locs cells slots lr hk C hl (fun q hq => by
    rcases List.mem_cons.mp hq with rfl | hq
    · exact by show z32 (max x y); unfold z32 at hx hy ⊢; omega
    · exact hst q (by simp [hq])) hH hS hc1 hc2 hz
theorem z_min {M : zM} {k : Nat} {b : Nat × Nat} {pc pc' idx : Nat} {ls st : List zV} {n : Nat} {h : zHp} {Q : Option zV → Nat → zHp → Prop} {x y : Int} (hd : zDC M pc (.invokestatic idx) 3 pc') (hl' : zLk M.1.cls idx mJ9_min_7cf53) (hk1 : 1 ≤ k) (hsz : zSz st ≤ 8) (kk : zRW M k b pc' ls (zI (min x y) :: st) n h Q) : zRW M k b pc ls (zI y :: zI x :: st) n h Q := by
  intro G d mc ms p l e s m args below meth c H locs cells slots lr hk C hl hst hH hS hc1 hc2 hz
  obtain ⟨hdec, rfl⟩ := hd
  have hx : z32 x := hst (zI x) (by simp)
  have hy : z32 y := hst (zI y) (by simp)
  refine va_mmin C.1 C.2.1 (C.2.2.1.trans hl.1.symm) C.2.2.2.2.2.1 (C.2.2.2.2.2.2.2.1 _ hl') (C.2.2.2.2.2.2.2.1 _ tJ9_min_7cf53.1) (C.2.2.2.2.2.2.2.1 _ tJ9_min_7cf53.2.1) (C.2.2.2.2.2.2.2.1 _ tJ9_min_7cf53.2.2.1) (show 1 ≤ d by omega) (by rw [zSz_eq]; show zSz st + 13 ≤ 64 * d; omega) (show cells ≤ mc by omega) (show slots ≤ ms by omega) hdec ?_
  have e1 : (if Int32.ofInt y < Int32.ofInt x then Int32.ofInt y else Int32.ofInt x) = Int32.ofInt (min x y) := by
    by_cases q : y < x
    · rw [if_pos ((z32_lt hy hx).mpr q)]
      congr 1
      omega
    · rw [if_neg (fun q' => q ((z32_lt hy hx).mp q'))]
      congr 1
      omega
  first | rw [e1] | (simp only [gt_iff_lt] at e1 ⊢; rw [e1])
  exact kk G d mc ms p l e s m args below meth c H locs cells slots lr hk C hl (fun q hq => by
    rcases List.mem_cons.mp hq with rfl | hq
    · exact by show z32 (min x y); unfold z32 at hx hy ⊢; omega
    · exact hst q (by simp [hq])) hH hS hc1 hc2 hz
theorem z_abs {M : zM} {k : Nat} {b : Nat × Nat} {pc pc' idx : Nat} {ls st : List zV} {n : Nat} {h : zHp} {Q : Option zV → Nat → zHp → Prop} {x y : Int} (hd : zDC M pc (.invokestatic idx) 3 pc') (hl' : zLk M.1.cls idx mJ9_abs_0f7a4) (hk1 : 1 ≤ k) (hsz : zSz st ≤ 8) (hx0 : -2147483648 < x) (kk : zRW M k b pc' ls (zI (if 0 ≤ x then x else -x) :: st) n h Q) : zRW M k b pc ls (zI x :: st) n h Q := by
  intro G d mc ms p l e s m args below meth c H locs cells slots lr hk C hl hst hH hS hc1 hc2 hz
  obtain ⟨hdec, rfl⟩ := hd
  have hx : z32 x := hst (zI x) (by simp)
  refine va_mabs C.1 C.2.1 (C.2.2.1.trans hl.1.symm) C.2.2.2.2.2.1 (C.2.2.2.2.2.2.2.1 _ hl') (C.2.2.2.2.2.2.2.1 _ tJ9_abs_0f7a4.1) (C.2.2.2.2.2.2.2.1 _ tJ9_abs_0f7a4.2.1) (C.2.2.2.2.2.2.2.1 _ tJ9_abs_0f7a4.2.2.1) (show 1 ≤ d by omega) (by rw [zSz_eq]; show zSz st + 13 ≤ 64 * d; omega) (show cells ≤ mc by omega) (show slots ≤ ms by omega) hdec ?_
  have h00 : z32 0 := by unfold z32; omega
  have e1 : (if 0 ≤ Int32.ofInt x then Int32.ofInt x else 0 - Int32.ofInt x) = Int32.ofInt (if 0 ≤ x then x else -x) := by
    rw [show (0 : Int32) = Int32.ofInt 0 from rfl, ← Int32.ofInt_sub]
    by_cases q : 0 ≤ x
    · rw [if_pos ((z32_le h00 hx).mpr q), if_pos q]
    · rw [if_neg (fun q' => q ((z32_le h00 hx).mp q')), if_neg q, Int.zero_sub]
  rw [e1]
  exact kk G d mc ms p l e s m args below meth c H locs cells slots lr hk C hl (fun q hq => by
    rcases List.mem_cons.mp hq with rfl | hq
    · exact by show z32 (if 0 ≤ x then x else -x); unfold z32 at hx ⊢; split <;> omega
    · exact hst q (by simp [hq])) hH hS hc1 hc2 hz
theorem z_absl {M : zM} {k : Nat} {b : Nat × Nat} {pc pc' idx : Nat} {ls st : List zV} {n : Nat} {h : zHp} {Q : Option zV → Nat → zHp → Prop} {x y : Int} (hd : zDC M pc (.invokestatic idx) 3 pc') (hl' : zLk M.1.cls idx mJ9_abs_067f4) (hk1 : 1 ≤ k) (hsz : zSz st ≤ 8) (hx0 : 0 ≤ x) (kk : zRW M k b pc' ls (zJ x :: st) n h Q) : zRW M k b pc ls (zJ x :: st) n h Q := by
  intro G d mc ms p l e s m args below meth c H locs cells slots lr hk C hl hst hH hS hc1 hc2 hz
  obtain ⟨hdec, rfl⟩ := hd
  have hx : z64 x := hst (zJ x) (by simp)
  refine va_mabs_long C.1 C.2.1 (C.2.2.1.trans hl.1.symm) C.2.2.2.2.2.1 (C.2.2.2.2.2.2.2.1 _ hl') (C.2.2.2.2.2.2.2.1 _ tJ9_abs_067f4.1) (C.2.2.2.2.2.2.2.1 _ tJ9_abs_067f4.2.1) (C.2.2.2.2.2.2.2.1 _ tJ9_abs_067f4.2.2.1) (show 1 ≤ d by omega) (by rw [zSz_eq]; show zSz st + 13 ≤ 64 * d; omega) (show cells ≤ mc by omega) (show slots ≤ ms by omega) hdec ?_
  have e1 : (if 0 < Int64.ofInt x then Int64.ofInt x else - Int64.ofInt x) = Int64.ofInt x := by
    by_cases q : 0 < x
    · rw [if_pos (by rw [Int64.lt_iff_toInt_lt, z64_ti hx]; exact q)]
    · have : x = 0 := by omega
      subst this
      rfl
  rw [e1]
  exact kk G d mc ms p l e s m args below meth c H locs cells slots lr hk C hl (fun q hq => by
    rcases List.mem_cons.mp hq with rfl | hq
    · exact hx
    · exact hst q (by simp [hq])) hH hS hc1 hc2 hz
theorem j_bit (h : zHp) (s : Nat) (hs : s < 256) : zCi mJ6_bitCount_0f7a4 0 [zI s] h (fun v h' => popc s = v ∧ h = h') := by
  refine z_enter [zI s] (by decide +kernel) (Nat.le_of_ble_eq_true rfl) rfl (fun hra hrg => ?_)
  refine z_il0 eJ6_bitCount_0f7a4_0 ?_
  refine z_il0 eJ6_bitCount_0f7a4_1 ?_
  refine z_ki eJ6_bitCount_0f7a4_2 ?_
  refine z_iushr eJ6_bitCount_0f7a4_3 ?_
  refine z_ki eJ6_bitCount_0f7a4_4 ?_
  refine z_iand eJ6_bitCount_0f7a4_7 ?_
  refine z_isub eJ6_bitCount_0f7a4_8 ?_
  refine z_is0 eJ6_bitCount_0f7a4_9 ?_
  refine z_il0 eJ6_bitCount_0f7a4_10 ?_
  refine z_ki eJ6_bitCount_0f7a4_11 ?_
  refine z_iand eJ6_bitCount_0f7a4_14 ?_
  refine z_il0 eJ6_bitCount_0f7a4_15 ?_
  refine z_ki eJ6_bitCount_0f7a4_16 ?_
  refine z_iushr eJ6_bitCount_0f7a4_17 ?_
  refine z_ki eJ6_bitCount_0f7a4_18 ?_
  refine z_iand eJ6_bitCount_0f7a4_21 ?_
  refine z_iadd eJ6_bitCount_0f7a4_22 ?_
  refine z_is0 eJ6_bitCount_0f7a4_23 ?_
  refine z_il0 eJ6_bitCount_0f7a4_24 ?_
  refine z_il0 eJ6_bitCount_0f7a4_25 ?_
  refine z_ki eJ6_bitCount_0f7a4_26 ?_
  refine z_iushr eJ6_bitCount_0f7a4_27 ?_
  refine z_iadd eJ6_bitCount_0f7a4_28 ?_
  refine z_ki eJ6_bitCount_0f7a4_29 ?_
  refine z_iand eJ6_bitCount_0f7a4_32 ?_
  refine z_is0 eJ6_bitCount_0f7a4_33 ?_
  refine z_il0 eJ6_bitCount_0f7a4_34 ?_
  refine z_il0 eJ6_bitCount_0f7a4_35 ?_
  refine z_ki eJ6_bitCount_0f7a4_36 ?_
  refine z_iushr eJ6_bitCount_0f7a4_38 ?_
  refine z_iadd eJ6_bitCount_0f7a4_39 ?_
  refine z_is0 eJ6_bitCount_0f7a4_40 ?_
  refine z_il0 eJ6_bitCount_0f7a4_41 ?_
  refine z_il0 eJ6_bitCount_0f7a4_42 ?_
  refine z_ki eJ6_bitCount_0f7a4_43 ?_
  refine z_iushr eJ6_bitCount_0f7a4_45 ?_
  refine z_iadd eJ6_bitCount_0f7a4_46 ?_
  refine z_is0 eJ6_bitCount_0f7a4_47 ?_
  refine z_il0 eJ6_bitCount_0f7a4_48 ?_
  refine z_ki eJ6_bitCount_0f7a4_49 ?_
  refine z_iand eJ6_bitCount_0f7a4_51 ?_
  refine ze_i eJ6_bitCount_0f7a4_52 rfl ?_
  refine ⟨?_, rfl⟩
  clear hra hrg
  revert s
  decide +kernel
theorem j_fill_l (h : zHp) (a sz : Nat) (x : Int) (ha : zSH[a]? = some (20, sz)) (hs : sz < 2000) : ∀ (r i : Nat), i + r = sz → zRW mJ7_fill_53178 0 (0, 0) 5 [zA a, zI x, zI i, zI sz] [] 143 (zfill h a i x) (zqv (fun h' => zfill h a sz x = h')) := by
  intro r
  induction r using Nat.strongRecOn with
  | ind r ih =>
    intro i hi
    refine z_il2 eJ7_fill_53178_5 ?_
    refine z_il3 eJ7_fill_53178_6 ?_
    refine z_cge eJ7_fill_53178_7 rfl (fun c7 => ?_) (fun c7 => ?_)
    · refine ze_v eJ7_fill_53178_20 rfl ?_
      have e : i = sz := by omega
      subst e
      exact rfl
    · refine z_al0 eJ7_fill_53178_10 ?_
      refine z_il2 eJ7_fill_53178_11 ?_
      refine z_il1 eJ7_fill_53178_12 ?_
      refine zs_iN eJ7_fill_53178_13 ha (j := i) (by omega) (by omega) ?_
      refine z_incN2 eJ7_fill_53178_14 zn0 (by omega) (by omega) ?_
      refine z_goto eJ7_fill_53178_17 rfl ?_
      rw [zfill_s]
      exact ih (r - 1) (by omega) (i + 1) (by omega)
theorem j_fill (h : zHp) (a sz : Nat) (x : Int) (ha : zSH[a]? = some (20, sz)) (hs : sz < 2000) : zCv mJ7_fill_53178 0 [zA a, zI x] h (fun h' => zfill h a sz x = h') := by
  refine z_enter [zA a, zI x, zU, zU] (by decide +kernel) (Nat.le_of_ble_eq_true rfl) rfl (fun hra hrg => ?_)
  refine z_ki eJ7_fill_53178_0 ?_
  refine z_is2 eJ7_fill_53178_1 zn0 ?_
  refine z_al0 eJ7_fill_53178_2 ?_
  refine z_len eJ7_fill_53178_3 ha (by omega) (by omega) ?_
  refine z_is3 eJ7_fill_53178_4 zn0 ?_
  have q := j_fill_l h a sz x ha hs sz 0 (Nat.zero_add _)
  rw [zfill_0] at q
  exact q
theorem j_filll_l (h : zHp) (a sz : Nat) (x : Int) (ha : zSH[a]? = some (21, sz)) (hs : sz < 2000) : ∀ (r i : Nat), i + r = sz → zRW mJ7_fill_d0a16 0 (0, 0) 6 [zA a, zJ x, zU, zI i, zI sz] [] 143 (zfill h a i x) (zqv (fun h' => zfill h a sz x = h')) := by
  intro r
  induction r using Nat.strongRecOn with
  | ind r ih =>
    intro i hi
    refine z_il3 eJ7_fill_d0a16_6 ?_
    refine z_il4 eJ7_fill_d0a16_7 ?_
    refine z_cge eJ7_fill_d0a16_9 rfl (fun c9 => ?_) (fun c9 => ?_)
    · refine ze_v eJ7_fill_d0a16_22 rfl ?_
      have e : i = sz := by omega
      subst e
      exact rfl
    · refine z_al0 eJ7_fill_d0a16_12 ?_
      refine z_il3 eJ7_fill_d0a16_13 ?_
      refine z_ll1 eJ7_fill_d0a16_14 ?_
      refine zs_lN eJ7_fill_d0a16_15 ha (j := i) (by omega) (by omega) ?_
      refine z_incN3 eJ7_fill_d0a16_16 zn9 (by omega) (by omega) ?_
      refine z_goto eJ7_fill_d0a16_19 rfl ?_
      rw [zfill_s]
      exact ih (r - 1) (by omega) (i + 1) (by omega)
theorem j_filll (h : zHp) (a sz : Nat) (x : Int) (ha : zSH[a]? = some (21, sz)) (hs : sz < 2000) : zCv mJ7_fill_d0a16 0 [zA a, zJ x] h (fun h' => zfill h a sz x = h') := by
  refine z_enter [zA a, zJ x, zU, zU, zU] (by decide +kernel) (Nat.le_of_ble_eq_true rfl) rfl (fun hra hrg => ?_)
  refine z_ki eJ7_fill_d0a16_0 ?_
  refine z_is3 eJ7_fill_d0a16_1 zn9 ?_
  refine z_al0 eJ7_fill_d0a16_2 ?_
  refine z_len eJ7_fill_d0a16_3 ha (by omega) (by omega) ?_
  refine z_is4 eJ7_fill_d0a16_4 zn0 ?_
  have q := j_filll_l h a sz x ha hs sz 0 (Nat.zero_add _)
  rw [zfill_0] at q
  exact q
