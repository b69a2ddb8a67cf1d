-- more rows: sums that do not wrap, String constants, the script (written by wip/tools/gen_more.py)
theorem zn0 : ¬ (0 : Nat) = 1 := by decide
theorem zn2 : ¬ (2 : Nat) = 1 := by decide
theorem zn3 : ¬ (3 : Nat) = 1 := by decide
theorem zn4 : ¬ (4 : Nat) = 1 := by decide
theorem zn5 : ¬ (5 : Nat) = 1 := by decide
theorem zn6 : ¬ (6 : Nat) = 1 := by decide
theorem zn9 : ¬ (9 : Nat) = 1 := by decide
theorem zw1 {x : Int} (h1 : -2147483648 ≤ x) (h2 : x < 2147483648) : zw x = x := zw_id (And.intro h1 h2)
theorem zl1 {x : Int} (h1 : -9223372036854775808 ≤ x) (h2 : x < 9223372036854775808) : zl x = x := zl_id (And.intro h1 h2)
theorem zup_rd (h : zHp) (a i : Nat) (v : Int) (a' i' : Nat) : zup h a i v a' i' = if a' = a ∧ i' = i then v else h a' i' := rfl
section
variable {M N : zM} {k kc : Nat} {b : Nat × Nat} {pc pc' idx ci na a sz k0 : Nat} {ls st : List zV} {n : Nat} {h : zHp} {Q : Option zV → Nat → zHp → Prop} {x y v i : Int}
theorem z_iaddN (hd : zDC M pc .iadd 1 pc') (h1 : -2147483648 ≤ x + y) (h2 : x + y < 2147483648) (kk : zRW M k b pc' ls (zI (x + y) :: st) n h Q) : zRW M k b pc ls (zI y :: zI x :: st) n h Q := z_iadd hd (by rw [zw1 h1 h2]; exact kk)
theorem z_isubN (hd : zDC M pc .isub 1 pc') (h1 : -2147483648 ≤ x - y) (h2 : x - y < 2147483648) (kk : zRW M k b pc' ls (zI (x - y) :: st) n h Q) : zRW M k b pc ls (zI y :: zI x :: st) n h Q := z_isub hd (by rw [zw1 h1 h2]; exact kk)
theorem z_imulN (hd : zDC M pc .imul 1 pc') (h1 : -2147483648 ≤ x * y) (h2 : x * y < 2147483648) (kk : zRW M k b pc' ls (zI (x * y) :: st) n h Q) : zRW M k b pc ls (zI y :: zI x :: st) n h Q := z_imul hd (by rw [zw1 h1 h2]; exact kk)
theorem z_laddN (hd : zDC M pc .ladd 1 pc') (h1 : -9223372036854775808 ≤ x + y) (h2 : x + y < 9223372036854775808) (kk : zRW M k b pc' ls (zJ (x + y) :: st) n h Q) : zRW M k b pc ls (zJ y :: zJ x :: st) n h Q := z_ladd hd (by rw [zl1 h1 h2]; exact kk)
theorem z_lsubN (hd : zDC M pc .lsub 1 pc') (h1 : -9223372036854775808 ≤ x - y) (h2 : x - y < 9223372036854775808) (kk : zRW M k b pc' ls (zJ (x - y) :: st) n h Q) : zRW M k b pc ls (zJ y :: zJ x :: st) n h Q := z_lsub hd (by rw [zl1 h1 h2]; exact kk)
theorem z_lmulN (hd : zDC M pc .lmul 1 pc') (h1 : -9223372036854775808 ≤ x * y) (h2 : x * y < 9223372036854775808) (kk : zRW M k b pc' ls (zJ (x * y) :: st) n h Q) : zRW M k b pc ls (zJ y :: zJ x :: st) n h Q := z_lmul hd (by rw [zl1 h1 h2]; exact kk)
theorem z_inegN (hd : zDC M pc .ineg 1 pc') (h1 : -2147483648 < x) (kk : zRW M k b pc' ls (zI (-x) :: st) n h Q) : zRW M k b pc ls (zI x :: st) n h Q := z_rg (fun _ hst _ => z_ineg hd (by have hx : z32 x := hst (zI x) (by simp); unfold z32 at hx; rw [zw1 (by omega) (by omega)]; exact kk))
theorem z_incN0 {q : Int} (hd : zDC M pc (.iinc 0 q) 3 pc') (h1 : -2147483648 ≤ v + q) (h2 : v + q < 2147483648) (kk : zRW M k b pc' (zI (v + q) :: ls) st n h Q) : zRW M k b pc (zI v :: ls) st n h Q := z_inc0 hd (by rw [zw1 h1 h2]; exact kk)
theorem z_incN1 {x0 : zV} {q : Int} (hd : zDC M pc (.iinc 1 q) 3 pc') (hp : ¬ x0.1 = 1) (h1 : -2147483648 ≤ v + q) (h2 : v + q < 2147483648) (kk : zRW M k b pc' (x0 :: zI (v + q) :: ls) st n h Q) : zRW M k b pc (x0 :: zI v :: ls) st n h Q := z_inc1 hd hp (by rw [zw1 h1 h2]; exact kk)
theorem z_incN2 {x0 x1 : zV} {q : Int} (hd : zDC M pc (.iinc 2 q) 3 pc') (hp : ¬ x1.1 = 1) (h1 : -2147483648 ≤ v + q) (h2 : v + q < 2147483648) (kk : zRW M k b pc' (x0 :: x1 :: zI (v + q) :: ls) st n h Q) : zRW M k b pc (x0 :: x1 :: zI v :: ls) st n h Q := z_inc2 hd hp (by rw [zw1 h1 h2]; exact kk)
theorem z_incN3 {x0 x1 x2 : zV} {q : Int} (hd : zDC M pc (.iinc 3 q) 3 pc') (hp : ¬ x2.1 = 1) (h1 : -2147483648 ≤ v + q) (h2 : v + q < 2147483648) (kk : zRW M k b pc' (x0 :: x1 :: x2 :: zI (v + q) :: ls) st n h Q) : zRW M k b pc (x0 :: x1 :: x2 :: zI v :: ls) st n h Q := z_inc3 hd hp (by rw [zw1 h1 h2]; exact kk)
theorem z_incN4 {x0 x1 x2 x3 : zV} {q : Int} (hd : zDC M pc (.iinc 4 q) 3 pc') (hp : ¬ x3.1 = 1) (h1 : -2147483648 ≤ v + q) (h2 : v + q < 2147483648) (kk : zRW M k b pc' (x0 :: x1 :: x2 :: x3 :: zI (v + q) :: ls) st n h Q) : zRW M k b pc (x0 :: x1 :: x2 :: x3 :: zI v :: ls) st n h Q := z_inc4 hd hp (by rw [zw1 h1 h2]; exact kk)
theorem z_incN5 {x0 x1 x2 x3 x4 : zV} {q : Int} (hd : zDC M pc (.iinc 5 q) 3 pc') (hp : ¬ x4.1 = 1) (h1 : -2147483648 ≤ v + q) (h2 : v + q < 2147483648) (kk : zRW M k b pc' (x0 :: x1 :: x2 :: x3 :: x4 :: zI (v + q) :: ls) st n h Q) : zRW M k b pc (x0 :: x1 :: x2 :: x3 :: x4 :: zI v :: ls) st n h Q := z_inc5 hd hp (by rw [zw1 h1 h2]; exact kk)
theorem z_incN6 {x0 x1 x2 x3 x4 x5 : zV} {q : Int} (hd : zDC M pc (.iinc 6 q) 3 pc') (hp : ¬ x5.1 = 1) (h1 : -2147483648 ≤ v + q) (h2 : v + q < 2147483648) (kk : zRW M k b pc' (x0 :: x1 :: x2 :: x3 :: x4 :: x5 :: zI (v + q) :: ls) st n h Q) : zRW M k b pc (x0 :: x1 :: x2 :: x3 :: x4 :: x5 :: zI v :: ls) st n h Q := z_inc6 hd hp (by rw [zw1 h1 h2]; exact kk)
theorem z_incN7 {x0 x1 x2 x3 x4 x5 x6 : zV} {q : Int} (hd : zDC M pc (.iinc 7 q) 3 pc') (hp : ¬ x6.1 = 1) (h1 : -2147483648 ≤ v + q) (h2 : v + q < 2147483648) (kk : zRW M k b pc' (x0 :: x1 :: x2 :: x3 :: x4 :: x5 :: x6 :: zI (v + q) :: ls) st n h Q) : zRW M k b pc (x0 :: x1 :: x2 :: x3 :: x4 :: x5 :: x6 :: zI v :: ls) st n h Q := z_inc7 hd hp (by rw [zw1 h1 h2]; exact kk)
theorem z_incN8 {x0 x1 x2 x3 x4 x5 x6 x7 : zV} {q : Int} (hd : zDC M pc (.iinc 8 q) 3 pc') (hp : ¬ x7.1 = 1) (h1 : -2147483648 ≤ v + q) (h2 : v + q < 2147483648) (kk : zRW M k b pc' (x0 :: x1 :: x2 :: x3 :: x4 :: x5 :: x6 :: x7 :: zI (v + q) :: ls) st n h Q) : zRW M k b pc (x0 :: x1 :: x2 :: x3 :: x4 :: x5 :: x6 :: x7 :: zI v :: ls) st n h Q := z_inc8 hd hp (by rw [zw1 h1 h2]; exact kk)
theorem z_incN9 {x0 x1 x2 x3 x4 x5 x6 x7 x8 : zV} {q : Int} (hd : zDC M pc (.iinc 9 q) 3 pc') (hp : ¬ x8.1 = 1) (h1 : -2147483648 ≤ v + q) (h2 : v + q < 2147483648) (kk : zRW M k b pc' (x0 :: x1 :: x2 :: x3 :: x4 :: x5 :: x6 :: x7 :: x8 :: zI (v + q) :: ls) st n h Q) : zRW M k b pc (x0 :: x1 :: x2 :: x3 :: x4 :: x5 :: x6 :: x7 :: x8 :: zI v :: ls) st n h Q := z_inc9 hd hp (by rw [zw1 h1 h2]; exact kk)
theorem z_incN10 {x0 x1 x2 x3 x4 x5 x6 x7 x8 x9 : zV} {q : Int} (hd : zDC M pc (.iinc 10 q) 3 pc') (hp : ¬ x9.1 = 1) (h1 : -2147483648 ≤ v + q) (h2 : v + q < 2147483648) (kk : zRW M k b pc' (x0 :: x1 :: x2 :: x3 :: x4 :: x5 :: x6 :: x7 :: x8 :: x9 :: zI (v + q) :: ls) st n h Q) : zRW M k b pc (x0 :: x1 :: x2 :: x3 :: x4 :: x5 :: x6 :: x7 :: x8 :: x9 :: zI v :: ls) st n h Q := z_inc10 hd hp (by rw [zw1 h1 h2]; exact kk)
theorem z_incN11 {x0 x1 x2 x3 x4 x5 x6 x7 x8 x9 x10 : zV} {q : Int} (hd : zDC M pc (.iinc 11 q) 3 pc') (hp : ¬ x10.1 = 1) (h1 : -2147483648 ≤ v + q) (h2 : v + q < 2147483648) (kk : zRW M k b pc' (x0 :: x1 :: x2 :: x3 :: x4 :: x5 :: x6 :: x7 :: x8 :: x9 :: x10 :: zI (v + q) :: ls) st n h Q) : zRW M k b pc (x0 :: x1 :: x2 :: x3 :: x4 :: x5 :: x6 :: x7 :: x8 :: x9 :: x10 :: zI v :: ls) st n h Q := z_inc11 hd hp (by rw [zw1 h1 h2]; exact kk)
theorem z_incN12 {x0 x1 x2 x3 x4 x5 x6 x7 x8 x9 x10 x11 : zV} {q : Int} (hd : zDC M pc (.iinc 12 q) 3 pc') (hp : ¬ x11.1 = 1) (h1 : -2147483648 ≤ v + q) (h2 : v + q < 2147483648) (kk : zRW M k b pc' (x0 :: x1 :: x2 :: x3 :: x4 :: x5 :: x6 :: x7 :: x8 :: x9 :: x10 :: x11 :: zI (v + q) :: ls) st n h Q) : zRW M k b pc (x0 :: x1 :: x2 :: x3 :: x4 :: x5 :: x6 :: x7 :: x8 :: x9 :: x10 :: x11 :: zI v :: ls) st n h Q := z_inc12 hd hp (by rw [zw1 h1 h2]; exact kk)
theorem z_len {kd : Nat} (hd : zDC M pc .arraylength 1 pc') (ha : zSH[a]? = some (kd, sz)) (hkd : 20 ≤ kd) (hs : sz < 2000) (kk : zRW M k b pc' ls (zI sz :: st) 143 h Q) : zRW M k b pc ls (zA a :: st) 143 h Q := by
  intro G d mc ms p l e s m args below meth c H locs cells slots lr hk C hl hst hH hS hc1 hc2 hz
  obtain ⟨hdec, rfl⟩ := hd
  have hk6 : kd < 27 := by
    have := List.all_eq_true.mp (show zSH.all (fun q => q.1 < 27) = true by decide +kernel) _ (List.mem_of_getElem? ha)
    simpa using this
  have he : (zWs G 143 h)[a]? = some (G.1 + a, .inl (G.2.2.2.1 (kd - 20), sz, zD G kd (h a))) := by rw [zWs_at (z_n ha), zN_arr ha (by omega)]
  refine va_alen (D := zGD G) (ws := zWs G 143 h) (tys := zTys G) (cl := zCL) C.1 C.2.1 C.2.2.2.2.2.2.2.2.1 hH.1 a (kd - 20) he (zTys_at G (by omega)) (v := Int32.ofInt sz) rfl hdec ?_
  exact kk G d mc ms p l e s m args below meth c H locs cells slots lr hk C hl (fun q hq => by
    rcases List.mem_cons.mp hq with rfl | hq
    · exact by show z32 (sz : Int); unfold z32; omega
    · exact hst q (by simp [hq])) hH hS hc1 hc2 hz
theorem z_ldcS {tx : String} {j : Nat} (hd : zDC M pc (.ldc idx) 2 pc') (hs : (M.1.cls, idx, tx, j) ∈ zSK) (kk : zRW M k b pc' ls (zT j :: st) n h Q) : zRW M k b pc ls st n h Q := by
  intro G d mc ms p l e s m args below meth c H locs cells slots lr hk C hl hst hH hS hc1 hc2 hz
  obtain ⟨hdec, rfl⟩ := hd
  refine va_ldcS C.1 C.2.1 C.2.2.2.2.2.1 (C.2.2.2.2.2.2.2.2.2.2.2.2.1 _ hs) hdec ?_
  exact kk G d mc ms p l e s m args below meth c H locs cells slots lr hk C hl (fun q hq => by
    rcases List.mem_cons.mp hq with rfl | hq
    · exact trivial
    · exact hst q (by simp [hq])) hH hS hc1 hc2 hz
theorem z_gTv {j : Nat} (hd : zDC M pc (.getfield idx) 3 pc') (hf : Cond.fieldLink M.1.cls idx "java/lang/String" "value" "[B" ∈ zTb) (hj : j < zSTx.length) (kk : zRW M k b pc' ls (zB j :: st) n h Q) : zRW M k b pc ls (zT j :: st) n h Q := by
  intro G d mc ms p l e s m args below meth c H locs cells slots lr hk C hl hst hH hS hc1 hc2 hz
  obtain ⟨hdec, rfl⟩ := hd
  refine vk_getf C.1 C.2.1 (C.2.2.2.2.2.2.2.2.2.2.2.1.1 j hj).2.2.1 hS C.2.2.2.2.2.1 (C.2.2.2.2.2.2.2.1 _ hf) (fun _ q => q) hdec ?_
  exact kk G d mc ms p l e s m args below meth c H locs cells slots lr hk C hl (fun q hq => by
    rcases List.mem_cons.mp hq with rfl | hq
    · exact trivial
    · exact hst q (by simp [hq])) hH hS hc1 hc2 hz
theorem z_gTc {j : Nat} (hd : zDC M pc (.getfield idx) 3 pc') (hf : Cond.fieldLink M.1.cls idx "java/lang/String" "coder" "B" ∈ zTb) (hj : j < zSTx.length) (kk : zRW M k b pc' ls (zI 0 :: st) n h Q) : zRW M k b pc ls (zT j :: st) n h Q := by
  intro G d mc ms p l e s m args below meth c H locs cells slots lr hk C hl hst hH hS hc1 hc2 hz
  obtain ⟨hdec, rfl⟩ := hd
  refine vk_getf C.1 C.2.1 (C.2.2.2.2.2.2.2.2.2.2.2.1.1 j hj).2.1 hS C.2.2.2.2.2.1 (C.2.2.2.2.2.2.2.1 _ hf) (fun _ q => q) hdec ?_
  exact kk G d mc ms p l e s m args below meth c H locs cells slots lr hk C hl (fun q hq => by
    rcases List.mem_cons.mp hq with rfl | hq
    · exact by show z32 0; unfold z32; omega
    · exact hst q (by simp [hq])) hH hS hc1 hc2 hz
theorem z_gsC (hd : zDC M pc (.getstatic idx) 3 pc') (hf : Cond.fieldLink M.1.cls idx "java/lang/String" "COMPACT_STRINGS" "Z" ∈ zTb) (kk : zRW M k b pc' ls (zI 1 :: st) n h Q) : zRW M k b pc ls st n h Q := by
  intro G d mc ms p l e s m args below meth c H locs cells slots lr hk C hl hst hH hS hc1 hc2 hz
  obtain ⟨hdec, rfl⟩ := hd
  refine va_gets C.1 C.2.1 C.2.2.2.2.2.2.2.2.2.2.2.2.2.1 hS C.2.2.2.2.2.1 (C.2.2.2.2.2.2.2.1 _ hf) (fun _ q => q) hdec ?_
  exact kk G d mc ms p l e s m args below meth c H locs cells slots lr hk C hl (fun q hq => by
    rcases List.mem_cons.mp hq with rfl | hq
    · exact by show z32 1; unfold z32; omega
    · exact hst q (by simp [hq])) hH hS hc1 hc2 hz
theorem z_gsF (hd : zDC M pc (.getstatic idx) 3 pc') (hf : Cond.fieldLink M.1.cls idx "jdk/internal/util/Preconditions" "SIOOBE_FORMATTER" "Ljava/util/function/BiFunction;" ∈ zTb) (kk : ∀ t, zRW M k b pc' ls (zF t :: st) n h Q) : zRW M k b pc ls st n h Q := by
  intro G d mc ms p l e s m args below meth c H locs cells slots lr hk C hl hst hH hS hc1 hc2 hz
  obtain ⟨hdec, rfl⟩ := hd
  rcases C.2.2.2.2.2.2.2.2.2.2.2.2.2.2.2.2 with hZ | ⟨t, hZ⟩
  · refine va_gets C.1 C.2.1 hZ hS C.2.2.2.2.2.1 (C.2.2.2.2.2.2.2.1 _ hf) (fun _ q => q) hdec ?_
    have kk := kk (-1)
    exact kk G d mc ms p l e s m args below meth c H locs cells slots lr hk C hl (fun q hq => by
      rcases List.mem_cons.mp hq with rfl | hq
      · exact trivial
      · exact hst q (by simp [hq])) hH hS hc1 hc2 hz
  · refine va_gets C.1 C.2.1 hZ hS C.2.2.2.2.2.1 (C.2.2.2.2.2.2.2.1 _ hf) (fun _ q => q) hdec ?_
    have kk := kk (Int.ofNat t)
    exact kk G d mc ms p l e s m args below meth c H locs cells slots lr hk C hl (fun q hq => by
      rcases List.mem_cons.mp hq with rfl | hq
      · exact trivial
      · exact hst q (by simp [hq])) hH hS hc1 hc2 hz
theorem z_lB {j : Nat} (hd : zDC M pc .arraylength 1 pc') (hj : j < zSTx.length) (kk : zRW M k b pc' ls (zI (zSLen.getD j 0 : Nat) :: st) n h Q) : zRW M k b pc ls (zB j :: st) n h Q := by
  intro G d mc ms p l e s m args below meth c H locs cells slots lr hk C hl hst hH hS hc1 hc2 hz
  obtain ⟨hdec, rfl⟩ := hd
  have hs : zSLen.getD j 0 < 100 := by
    have := List.all_eq_true.mp (show (List.range zSTx.length).all (fun j => zSLen.getD j 0 < 100) = true by decide +kernel) j (List.mem_range.mpr hj)
    simpa using this
  refine va_tlen C.1 C.2.1 (C.2.2.2.2.2.2.2.2.2.2.2.1.1 j hj).2.2.2 hS (v := Int32.ofInt (zSLen.getD j 0 : Nat)) rfl hdec ?_
  exact kk G d mc ms p l e s m args below meth c H locs cells slots lr hk C hl (fun q hq => by
    rcases List.mem_cons.mp hq with rfl | hq
    · exact by show z32 ((zSLen.getD j 0 : Nat) : Int); unfold z32; omega
    · exact hst q (by simp [hq])) hH hS hc1 hc2 hz
theorem z_baldB {j : Nat} (hd : zDC M pc .baload 1 pc') (hj : j < zSTx.length) (h0 : 0 ≤ i) (h1 : i < (zSLen.getD j 0 : Nat)) (kk : zRW M k b pc' ls (zI ((zSByt.getD j []).getD i.toNat 0).toInt :: st) n h Q) : zRW M k b pc ls (zI i :: zB j :: st) n h Q := by
  intro G d mc ms p l e s m args below meth c H locs cells slots lr hk C hl hst hH hS hc1 hc2 hz
  obtain ⟨hdec, rfl⟩ := hd
  obtain ⟨hi1, hi2⟩ := z_idx (hst _ List.mem_cons_self) h0 h1
  refine va_tb C.1 C.2.1 (C.2.2.2.2.2.2.2.2.2.2.2.1.1 j hj).2.2.2 hS hi1 (v := .int (Int32.ofInt ((zSByt.getD j []).getD i.toNat 0).toInt)) (by rw [hi2, Int32.ofInt_toInt]) hdec ?_
  exact kk G d mc ms p l e s m args below meth c H locs cells slots lr hk C hl (fun q hq => by
    rcases List.mem_cons.mp hq with rfl | hq
    · exact z32_toInt _
    · exact hst q (by simp [hq])) hH hS hc1 hc2 hz
theorem z_sX (hd : zDC M pc .iaload 1 pc') (h0 : 0 ≤ i) (h1 : i < h 201 0) (kk : zRW M k b pc' ls (zI (h 200 i.toNat) :: st) n h Q) : zRW M k b pc ls (zI i :: zX :: st) n h Q := by
  intro G d mc ms p l e s m args below meth c H locs cells slots lr hk C hl hst hH hS hc1 hc2 hz
  obtain ⟨hdec, rfl⟩ := hd
  obtain ⟨q1, q2⟩ := hH.2.2.2
  have h1' : i < (G.2.2.2.2.1.2.1 : Nat) := by rw [q2] at h1; exact h1
  obtain ⟨hi1, hi2⟩ := z_idx (hst _ List.mem_cons_self) h0 h1'
  have hX := C.2.2.2.2.2.2.2.2.2.2.1
  refine va_sld C.1 C.2.1 hX.1 (Nat.lt_of_lt_of_le hX.2 C.2.2.2.2.2.2.2.2.2.1) (Nat.not_le.mpr hX.2) hS hi1 hdec ?_
  rw [hi2, show G.2.2.2.2.1.2.2 i.toNat = Int32.ofInt (h 200 i.toNat) by rw [← q1 i.toNat (by omega), Int32.ofInt_toInt]]
  exact kk G d mc ms p l e s m args below meth c H locs cells slots lr hk C hl (fun q hq => by
    rcases List.mem_cons.mp hq with rfl | hq
    · exact by show z32 (h 200 i.toNat); rw [← q1 i.toNat (by omega)]; exact z32_toInt _
    · exact hst q (by simp [hq])) hH hS hc1 hc2 hz
theorem z_lX (hd : zDC M pc .arraylength 1 pc') (hs : h 201 0 < 2147483648) (kk : zRW M k b pc' ls (zI (h 201 0) :: st) n h Q) : zRW M k b pc ls (zX :: st) n h Q := by
  intro G d mc ms p l e s m args below meth c H locs cells slots lr hk C hl hst hH hS hc1 hc2 hz
  obtain ⟨hdec, rfl⟩ := hd
  obtain ⟨q1, q2⟩ := hH.2.2.2
  have hX := C.2.2.2.2.2.2.2.2.2.2.1
  refine va_slen C.1 C.2.1 hX.1 (Nat.lt_of_lt_of_le hX.2 C.2.2.2.2.2.2.2.2.2.1) (Nat.not_le.mpr hX.2) hS hdec ?_
  rw [show Int32.ofNat G.2.2.2.2.1.2.1 = Int32.ofInt (h 201 0) by rw [q2]; rfl]
  exact kk G d mc ms p l e s m args below meth c H locs cells slots lr hk C hl (fun q hq => by
    rcases List.mem_cons.mp hq with rfl | hq
    · exact by show z32 (h 201 0); have q3 : 0 ≤ h 201 0 := (by rw [q2]; exact Int.natCast_nonneg _); unfold z32; omega
    · exact hst q (by simp [hq])) hH hS hc1 hc2 hz
def zMT (N : zM) (na : Nat) : Prop := Cond.instanceMethod N.1 ∈ zTb ∧ Cond.selects N.1.cls N.1 N.1 ∈ zTb ∧ Cond.initialized N.1.cls ∈ zTb ∧ Cond.code N.1 N.2.1 N.2.2.1 N.2.2.2 ∈ zTb ∧ (N.1.cls ≠ "java/lang/invoke/MethodHandle" ∧ N.1.cls ≠ "java/lang/invoke/VarHandle" ∧ (parseMethodDescriptor N.1.desc).map (fun d => d.parameters.length) = some na) ∧ N.1.cls = "java/lang/String" ∧ N.2.2.1 ≤ 40
set_option maxHeartbeats 2000000 in
theorem z_invT {as : List zV} {j : Nat} {Q' : Option zV → Nat → zHp → Prop} (hd : zDC M pc (.invokevirtual idx) 3 pc') (hl : zLk M.1.cls idx N) (hm : zMT N na) (hj : j < zSTx.length) (hc : zCall N kc (0, 0) (zT j :: as) n h Q') (hk : kc + 1 ≤ k) (hna : as.length = na) (hsz : zSz st ≤ 8)
    (hQn : ∀ r n' h', Q' r n' h' → n' ≤ 142 → n ≤ 142 ∧ n' = n) (kk : ∀ r n' h', (∀ x, r = some x → zR x) → Q' r n' h' → zRW M k b pc' ls (r.toList ++ st) n' h' Q) : zRW M k b pc ls (as.reverse ++ zT j :: st) n h Q := by
  intro G d mc ms p l e s m args below meth c H locs cells slots lr hkd C hlr hst hH hS hc1 hc2 hz
  refine z_size fun hup => ?_
  obtain ⟨hdec, rfl⟩ := hd
  obtain ⟨m1, m2, m3, m4, m5, m6, m7⟩ := hm
  obtain ⟨hx, hb, hml, hret, hlo, hown, hnm, hts, hK⟩ := C
  have hlow := zH_low hH (Nat.le_trans hK.2.1 hS.1)
  refine z_back (va_runV (C := N.1.cls) (As := as.map (zE G)) (rest := st.map (zE G)) (nL := M.2.2.1) (Ts := zTb) ⟨hx, hb, hml, hown, hts⟩ (hc l G (d - 1) (by omega)) ⟨callB_of (ws' := zTb) na hts (zG_words m4) rfl rfl rfl (hts _ m3) (hts _ hl) m5 ⟨show d - 1 + 1 ≤ d by omega, show 8 + (N.2.2.1 + 11) + 64 * (d - 1) ≤ 64 * d by omega⟩, hts _ m1, hts _ m2⟩ ⟨zPc_blind G _ n h, by rw [m6]; exact vk_recv hK.2.2.2.1 hj hS, fun U hU hW => ⟨rfl, fun x hx => ?_, by rw [hU]; exact hH, hK.go hW (by rw [hU]; exact hS), fun h142 => by rw [hU]; have := hz h142; omega⟩⟩ rfl (by rw [List.length_map]; exact hna) hlr.1 (by rw [List.map_append, List.map_reverse]; rfl) (lv_room (by rw [zSz_eq]; exact hsz)) hdec ⟨show cells + 0 ≤ mc by omega, show slots + 0 ≤ ms by omega⟩) rfl hS (fun r n' h' H1 locs1 hr hq hH1 hS1 => ?_)
  · rcases List.mem_cons.mp hx with rfl | hx
    · exact trivial
    · exact hst x (List.mem_append_left _ (List.mem_reverse.mpr hx))
  · have ee : (r.map (zE G)).toList ++ st.map (zE G) = (r.toList ++ st).map (zE G) := by cases r <;> rfl
    rw [ee]
    exact kk r n' h' hr hq G d mc ms p l e s m args below meth c H1 locs1 _ _ lr hkd ⟨hx, hb, hml, hret, hlo, hown, hnm, hts, hK⟩ hlr (fun y hy => by
      rcases List.mem_append.mp hy with hy | hy
      · exact hr y (by cases r with
          | none => cases hy
          | some z => simp at hy; rw [hy])
      · exact hst y (List.mem_append_right _ (List.mem_cons_of_mem _ hy))) hH1 hS1 (show cells + 0 + b.1 ≤ mc by omega) (show slots + 0 + b.2 ≤ ms by omega) (fun h142 => by
      obtain ⟨q1, q2⟩ := hQn r n' h' hq h142
      have := hz q1
      omega)
theorem zc_Ti0 {j : Nat} {Q' : Int → zHp → Prop} (hd : zDC M pc (.invokevirtual idx) 3 pc') (hl : zLk M.1.cls idx N) (hm : zMT N 0) (hj : j < zSTx.length) (hk : kc + 1 ≤ k) (hsz : zSz st ≤ 8) (hc : zCi N kc [zT j] h Q') (kk : ∀ v h', Q' v h' → z32 v → zRW M k (0, 0) pc' ls (zI v :: st) 143 h' Q) : zRW M k (0, 0) pc ls (zT j :: st) 143 h Q := z_invT (as := []) hd hl hm hj hc hk rfl hsz (fun r n' h' hq h142 => by have := hq.1; omega) (fun r n' h' hr hq => by
  obtain ⟨rfl, v, rfl, hq⟩ := hq
  exact kk v h' hq (hr _ rfl))
theorem zc_Ti1 {j : Nat} {x0 : zV} {Q' : Int → zHp → Prop} (hd : zDC M pc (.invokevirtual idx) 3 pc') (hl : zLk M.1.cls idx N) (hm : zMT N 1) (hj : j < zSTx.length) (hk : kc + 1 ≤ k) (hsz : zSz st ≤ 8) (hc : zCi N kc [zT j, x0] h Q') (kk : ∀ v h', Q' v h' → z32 v → zRW M k (0, 0) pc' ls (zI v :: st) 143 h' Q) : zRW M k (0, 0) pc ls (x0 :: zT j :: st) 143 h Q := z_invT (as := [x0]) hd hl hm hj hc hk rfl hsz (fun r n' h' hq h142 => by have := hq.1; omega) (fun r n' h' hr hq => by
  obtain ⟨rfl, v, rfl, hq⟩ := hq
  exact kk v h' hq (hr _ rfl))
theorem ze_n {Q' : Int → zHp → Prop} {ty : FieldType} (hd : zDC M pc .ireturn 1 pc') (ht : M.2.2.2 = some ty) (hn : narrow ty (.int (Int32.ofInt v)) = .int (Int32.ofInt v)) (hq : Q' v h) : zRW M k b pc ls [zI v] 143 h (zqi Q') := z_iretG hd ht hn ⟨rfl, v, rfl, hq⟩
end
theorem sX5_84 : (RX5, 84, "name", 0) ∈ zSK := by decide +kernel
theorem sX5_122 : (RX5, 122, "off", 1) ∈ zSK := by decide +kernel
theorem sX5_124 : (RX5, 124, "cost", 2) ∈ zSK := by decide +kernel
theorem sX5_94 : (RX5, 94, "sort", 3) ∈ zSK := by decide +kernel
theorem sX5_135 : (RX5, 135, "out", 4) ∈ zSK := by decide +kernel
theorem sX5_136 : (RX5, 136, "order", 5) ∈ zSK := by decide +kernel
theorem sX5_99 : (RX5, 99, "ties", 6) ∈ zSK := by decide +kernel
theorem sX7_52 : (RX7, 52, "first", 7) ∈ zSK := by decide +kernel
theorem sX7_58 : (RX7, 58, "points", 8) ∈ zSK := by decide +kernel
theorem sX7_59 : (RX7, 59, "runs", 9) ∈ zSK := by decide +kernel
theorem sX7_61 : (RX7, 61, "pairs", 10) ∈ zSK := by decide +kernel
theorem sX7_63 : (RX7, 63, "near", 11) ∈ zSK := by decide +kernel
theorem sX7_65 : (RX7, 65, "bar", 12) ∈ zSK := by decide +kernel
theorem sX0_68 : (RX0, 68, "end", 13) ∈ zSK := by decide +kernel
theorem sX0_92 : (RX0, 92, "up", 14) ∈ zSK := by decide +kernel
theorem sX0_94 : (RX0, 94, "down", 15) ∈ zSK := by decide +kernel
theorem sX0_96 : (RX0, 96, "in", 16) ∈ zSK := by decide +kernel
theorem sX0_98 : (RX0, 98, "out", 4) ∈ zSK := by decide +kernel
theorem sX0_100 : (RX0, 100, "spend", 17) ∈ zSK := by decide +kernel
theorem sX0_102 : (RX0, 102, "loop", 18) ∈ zSK := by decide +kernel
theorem sX0_104 : (RX0, 104, "when", 19) ∈ zSK := by decide +kernel
theorem sX0_106 : (RX0, 106, "until", 20) ∈ zSK := by decide +kernel
theorem sX0_127 : (RX0, 127, "not", 21) ∈ zSK := by decide +kernel
theorem zfv : Cond.fieldLink RJ0 9 "java/lang/String" "value" "[B" ∈ zTb := zT9 33 rfl rfl
theorem zfc : Cond.fieldLink RJ0 15 "java/lang/String" "coder" "B" ∈ zTb := zT9 34 rfl rfl
theorem zfs : Cond.fieldLink RJ0 38 "java/lang/String" "COMPACT_STRINGS" "Z" ∈ zTb := zT3 151 rfl rfl
theorem zff : Cond.fieldLink RJ0 1053 "jdk/internal/util/Preconditions" "SIOOBE_FORMATTER" "Ljava/util/function/BiFunction;" ∈ zTb := zT3 167 rfl rfl
theorem tJ0_length_8abf5 : zMT mJ0_length_8abf5 0 := ⟨zT3 144 rfl rfl, zT3 145 rfl rfl, zT1 16 rfl rfl, zT3 146 rfl rfl, ⟨by decide +kernel, by decide +kernel, by decide +kernel⟩, rfl, by decide⟩
theorem tJ0_charAt_5068e : zMT mJ0_charAt_5068e 1 := ⟨zT3 154 rfl rfl, zT3 155 rfl rfl, zT1 16 rfl rfl, zT3 156 rfl rfl, ⟨by decide +kernel, by decide +kernel, by decide +kernel⟩, rfl, by decide⟩
theorem tJ0_coder_7d493 : zMT mJ0_coder_7d493 0 := ⟨zT3 148 rfl rfl, zT3 149 rfl rfl, zT1 16 rfl rfl, zT3 150 rfl rfl, ⟨by decide +kernel, by decide +kernel, by decide +kernel⟩, rfl, by decide⟩
theorem tJ0_isLatin1_aae02 : zMT mJ0_isLatin1_aae02 0 := ⟨zT3 158 rfl rfl, zT3 159 rfl rfl, zT1 16 rfl rfl, zT3 160 rfl rfl, ⟨by decide +kernel, by decide +kernel, by decide +kernel⟩, rfl, by decide⟩
