-- array rows by a natural index (written by wip/tools/gen_idx.py)
section
variable {M N : zM} {k kc : Nat} {b : Nat × Nat} {pc pc' idx ci na a sz k0 j : Nat} {ls st : List zV} {n : Nat} {h : zHp} {Q : Option zV → Nat → zHp → Prop} {x y v i : Int}
theorem zr_iN (hd : zDC M pc .iaload 1 pc') (ha : zSH[a]? = some (20, sz)) (hj : i = (j : Int)) (h1 : j < sz) (kk : zRW M k b pc' ls (zI (h a j) :: st) 143 h Q) : zRW M k b pc ls (zI i :: zA a :: st) 143 h Q := by
  subst hj
  exact zr_i hd ha (by omega) (by omega) kk
theorem zr_bN (hd : zDC M pc .baload 1 pc') (ha : zSH[a]? = some (22, sz)) (hj : i = (j : Int)) (h1 : j < sz) (kk : zRW M k b pc' ls (zI (h a j) :: st) 143 h Q) : zRW M k b pc ls (zI i :: zA a :: st) 143 h Q := by
  subst hj
  exact zr_b hd ha (by omega) (by omega) kk
theorem zr_zN (hd : zDC M pc .baload 1 pc') (ha : zSH[a]? = some (23, sz)) (hj : i = (j : Int)) (h1 : j < sz) (kk : zRW M k b pc' ls (zI (h a j) :: st) 143 h Q) : zRW M k b pc ls (zI i :: zA a :: st) 143 h Q := by
  subst hj
  exact zr_z hd ha (by omega) (by omega) kk
theorem zr_lN (hd : zDC M pc .laload 1 pc') (ha : zSH[a]? = some (21, sz)) (hj : i = (j : Int)) (h1 : j < sz) (kk : zRW M k b pc' ls (zJ (h a j) :: st) 143 h Q) : zRW M k b pc ls (zI i :: zA a :: st) 143 h Q := by
  subst hj
  exact zr_l hd ha (by omega) (by omega) kk
theorem zs_iN (hd : zDC M pc .iastore 1 pc') (ha : zSH[a]? = some (20, sz)) (hj : i = (j : Int)) (h1 : j < sz) (kk : zRW M k b pc' ls st 143 (zup h a j v) Q) : zRW M k b pc ls (zI v :: zI i :: zA a :: st) 143 h Q := by
  subst hj
  exact zs_i hd ha (by omega) (by omega) kk
theorem zs_lN (hd : zDC M pc .lastore 1 pc') (ha : zSH[a]? = some (21, sz)) (hj : i = (j : Int)) (h1 : j < sz) (kk : zRW M k b pc' ls st 143 (zup h a j v) Q) : zRW M k b pc ls (zJ v :: zI i :: zA a :: st) 143 h Q := by
  subst hj
  exact zs_l hd ha (by omega) (by omega) kk
theorem zs_bN (hd : zDC M pc .bastore 1 pc') (ha : zSH[a]? = some (22, sz)) (hj : i = (j : Int)) (h1 : j < sz) (kk : zRW M k b pc' ls st 143 (zup h a j (zi2b v)) Q) : zRW M k b pc ls (zI v :: zI i :: zA a :: st) 143 h Q := by
  subst hj
  exact zs_b hd ha (by omega) (by omega) kk
theorem zs_zN (hd : zDC M pc .bastore 1 pc') (ha : zSH[a]? = some (23, sz)) (hj : i = (j : Int)) (h1 : j < sz) (hv : v = 0 ∨ v = 1) (kk : zRW M k b pc' ls st 143 (zup h a j v) Q) : zRW M k b pc ls (zI v :: zI i :: zA a :: st) 143 h Q := by
  subst hj
  exact zs_z hd ha (by omega) (by omega) hv kk
theorem zr_aN {kd t : Nat} (hd : zDC M pc .aaload 1 pc') (ha : zSH[a]? = some (kd, sz)) (hkd : kd = 24 ∨ kd = 25 ∨ kd = 26) (hj : i = (j : Int)) (h1 : j < sz) (ht : zRTa a j = t) (kk : zRW M k b pc' ls (zA t :: st) 143 h Q) : zRW M k b pc ls (zI i :: zA a :: st) 143 h Q := by
  subst hj
  exact zr_a hd ha hkd (by omega) (by omega) ht kk
theorem z_sXN (hd : zDC M pc .iaload 1 pc') (hj : i = (j : Int)) (h1 : (j : Int) < h 201 0) (kk : zRW M k b pc' ls (zI (h 200 j) :: st) n h Q) : zRW M k b pc ls (zI i :: zX :: st) n h Q := by
  subst hj
  exact z_sX hd (by omega) h1 kk
end
theorem zcmp_lt {x y : Int} : zcmp x y < 0 ↔ x < y := by
  unfold zcmp
  split
  · constructor <;> intro h <;> omega
  · split <;> constructor <;> intro h <;> omega
theorem zcmp_ge {x y : Int} : 0 ≤ zcmp x y ↔ y ≤ x := by
  unfold zcmp
  split
  · constructor <;> intro h <;> omega
  · split <;> constructor <;> intro h <;> omega
theorem zcmp_gt {x y : Int} : 0 < zcmp x y ↔ y < x := by
  unfold zcmp
  split
  · constructor <;> intro h <;> omega
  · split <;> constructor <;> intro h <;> omega
theorem zcmp_le {x y : Int} : zcmp x y ≤ 0 ↔ x ≤ y := by
  unfold zcmp
  split
  · constructor <;> intro h <;> omega
  · split <;> constructor <;> intro h <;> omega
theorem zcmp_eq {x y : Int} : zcmp x y = 0 ↔ x = y := by
  unfold zcmp
  split
  · constructor <;> intro h <;> omega
  · split <;> constructor <;> intro h <;> omega
theorem zcmp_ne {x y : Int} : zcmp x y = 0 ↔ x = y := by
  unfold zcmp
  split
  · constructor <;> intro h <;> omega
  · split <;> constructor <;> intro h <;> omega
