-- rows over the whole heap (all 142 cells made): fields, arrays, ends, calls by the number of arguments (written by wip/tools/gen_nrows.py)
theorem zEF_i {G : zG} {ty : FieldType} {x : Int} (h : zKd ty = 0) : zEF G ty x = .int (Int32.ofInt x) := by
  cases ty <;> first | rfl | cases h
theorem zRF_i {ty : FieldType} {x : Int} (h : zKd ty = 0) (hr : zRF ty x) : z32 x := by
  cases ty with
  | boolean => have h1 : 0 ≤ x ∧ x ≤ 1 := hr; unfold z32; omega
  | byte => have h1 : -128 ≤ x ∧ x ≤ 127 := hr; unfold z32; omega
  | long => cases h
  | object _ => cases h
  | array _ => cases h
  | _ => exact hr
section
variable {M N : zM} {k kc : Nat} {b : Nat × Nat} {pc pc' idx ci na a sz k0 : Nat} {ls st : List zV} {n : Nat} {h : zHp} {Q : Option zV → Nat → zHp → Prop} {x y v i : Int}
theorem z_n {q : Nat × Nat} (ha : zSH[a]? = some q) : a < min 143 142 := by have := zsh_lt ha; omega
theorem z_gi (hd : zDC M pc (.getfield idx) 3 pc') (hf : zFi M.1.cls idx ci k0) (ha : zSH[a]? = some (ci, sz)) (kk : zRW M k b pc' ls (zI (h a k0) :: st) 143 h Q) : zRW M k b pc ls (zA a :: st) 143 h Q :=
  z_getf hd hf.1 ha (z_n ha) (zI (h a k0)) (fun hr _ => ⟨fun G => zEF_i hf.2, zRF_i hf.2 hr⟩) kk
theorem z_gj (hd : zDC M pc (.getfield idx) 3 pc') (hf : zFj M.1.cls idx ci k0) (ha : zSH[a]? = some (ci, sz)) (kk : zRW M k b pc' ls (zJ (h a k0) :: st) 143 h Q) : zRW M k b pc ls (zA a :: st) 143 h Q :=
  z_getf hd hf.1 ha (z_n ha) (zJ (h a k0)) (fun hr _ => by rw [hf.2] at hr ⊢; exact ⟨fun G => rfl, hr⟩) kk
theorem z_ga (hd : zDC M pc (.getfield idx) 3 pc') (hf : zFa M.1.cls idx ci k0) (ha : zSH[a]? = some (ci, sz)) {t : Nat} (ht : zRTa a k0 = t) (kk : zRW M k b pc' ls (zA t :: st) 143 h Q) : zRW M k b pc ls (zA a :: st) 143 h Q := by
  subst ht
  obtain ⟨⟨Cn, T, Nf, hc, hk0, hT, hlk⟩, hr⟩ := hf
  have hci := z_ci hc
  have hs : sz = Nf := (z_cf ci _ hc).2.2.2 a ci sz ha rfl
  refine z_getf hd ⟨Cn, T, Nf, hc, hk0, hT, hlk⟩ ha (z_n ha) (zA (zRTa a k0)) (fun _ hw => ?_) kk
  have e := hw (by omega) a k0 ci sz ha (by omega) (by rw [zTA, if_pos hci]; exact hr)
  rw [e]
  refine ⟨fun G => ?_, trivial⟩
  cases ht : zTY ci k0 <;> rw [ht] at hr <;> first | rfl | cases hr
theorem z_pi (hd : zDC M pc (.putfield idx) 3 pc') (hf : zPi M.1.cls idx ci k0) (ha : zSH[a]? = some (ci, sz)) (kk : zRW M k b pc' ls st 143 (zup h a k0 v) Q) : zRW M k b pc ls (zI v :: zA a :: st) 143 h Q :=
  z_putf v hd hf.1 ha (z_n ha) (Or.inl hf.2.2) (fun _ => by rw [hf.2.1]; rfl) (fun hr => by rw [hf.2.1]; exact ⟨fun G => ⟨rfl, rfl, rfl⟩, hr⟩) kk
theorem z_pz (hd : zDC M pc (.putfield idx) 3 pc') (hf : zPz M.1.cls idx ci k0) (ha : zSH[a]? = some (ci, sz)) (hv : v = 0 ∨ v = 1) (kk : zRW M k b pc' ls st 143 (zup h a k0 v) Q) : zRW M k b pc ls (zI v :: zA a :: st) 143 h Q :=
  z_putf v hd hf.1 ha (z_n ha) (Or.inl hf.2.2) (fun _ => by rw [hf.2.1]; rfl) (fun _ => by
    rw [hf.2.1]
    rcases hv with rfl | rfl
    · exact ⟨fun G => ⟨rfl, rfl, rfl⟩, by show (0 : Int) ≤ 0 ∧ (0 : Int) ≤ 1; omega⟩
    · exact ⟨fun G => ⟨rfl, rfl, rfl⟩, by show (0 : Int) ≤ 1 ∧ (1 : Int) ≤ 1; omega⟩) kk
theorem z_pj (hd : zDC M pc (.putfield idx) 3 pc') (hf : zPj M.1.cls idx ci k0) (ha : zSH[a]? = some (ci, sz)) (kk : zRW M k b pc' ls st 143 (zup h a k0 v) Q) : zRW M k b pc ls (zJ v :: zA a :: st) 143 h Q :=
  z_putf v hd hf.1 ha (z_n ha) (Or.inl hf.2.2) (fun _ => by rw [hf.2.1]; rfl) (fun hr => by rw [hf.2.1]; exact ⟨fun G => ⟨rfl, rfl, rfl⟩, hr⟩) kk

theorem zr_i (hd : zDC M pc .iaload 1 pc') (ha : zSH[a]? = some (20, sz)) (h0 : 0 ≤ i) (h1 : i < sz) (kk : zRW M k b pc' ls (zI (h a i.toNat) :: st) 143 h Q) : zRW M k b pc ls (zI i :: zA a :: st) 143 h Q := z_iald hd ha (z_n ha) h0 h1 kk
theorem zr_b (hd : zDC M pc .baload 1 pc') (ha : zSH[a]? = some (22, sz)) (h0 : 0 ≤ i) (h1 : i < sz) (kk : zRW M k b pc' ls (zI (h a i.toNat) :: st) 143 h Q) : zRW M k b pc ls (zI i :: zA a :: st) 143 h Q := z_bald hd ha (z_n ha) h0 h1 kk
theorem zr_z (hd : zDC M pc .baload 1 pc') (ha : zSH[a]? = some (23, sz)) (h0 : 0 ≤ i) (h1 : i < sz) (kk : zRW M k b pc' ls (zI (h a i.toNat) :: st) 143 h Q) : zRW M k b pc ls (zI i :: zA a :: st) 143 h Q := z_zald hd ha (z_n ha) h0 h1 kk
theorem zr_l (hd : zDC M pc .laload 1 pc') (ha : zSH[a]? = some (21, sz)) (h0 : 0 ≤ i) (h1 : i < sz) (kk : zRW M k b pc' ls (zJ (h a i.toNat) :: st) 143 h Q) : zRW M k b pc ls (zI i :: zA a :: st) 143 h Q := z_lald hd ha (z_n ha) h0 h1 kk
theorem zr_a {kd t : Nat} (hd : zDC M pc .aaload 1 pc') (ha : zSH[a]? = some (kd, sz)) (hkd : kd = 24 ∨ kd = 25 ∨ kd = 26) (h0 : 0 ≤ i) (h1 : i < sz) (ht : zRTa a i.toNat = t) (kk : zRW M k b pc' ls (zA t :: st) 143 h Q) : zRW M k b pc ls (zI i :: zA a :: st) 143 h Q := z_aald hd ha hkd (by omega) h0 h1 (ht ▸ kk)
theorem zs_i (hd : zDC M pc .iastore 1 pc') (ha : zSH[a]? = some (20, sz)) (h0 : 0 ≤ i) (h1 : i < sz) (kk : zRW M k b pc' ls st 143 (zup h a i.toNat v) Q) : zRW M k b pc ls (zI v :: zI i :: zA a :: st) 143 h Q := z_iast hd ha (z_n ha) h0 h1 kk
theorem zs_l (hd : zDC M pc .lastore 1 pc') (ha : zSH[a]? = some (21, sz)) (h0 : 0 ≤ i) (h1 : i < sz) (kk : zRW M k b pc' ls st 143 (zup h a i.toNat v) Q) : zRW M k b pc ls (zJ v :: zI i :: zA a :: st) 143 h Q := z_last hd ha (z_n ha) h0 h1 kk
theorem zs_b (hd : zDC M pc .bastore 1 pc') (ha : zSH[a]? = some (22, sz)) (h0 : 0 ≤ i) (h1 : i < sz) (kk : zRW M k b pc' ls st 143 (zup h a i.toNat (zi2b v)) Q) : zRW M k b pc ls (zI v :: zI i :: zA a :: st) 143 h Q := z_bast hd ha (z_n ha) h0 h1 kk
theorem zs_z (hd : zDC M pc .bastore 1 pc') (ha : zSH[a]? = some (23, sz)) (h0 : 0 ≤ i) (h1 : i < sz) (hv : v = 0 ∨ v = 1) (kk : zRW M k b pc' ls st 143 (zup h a i.toNat v) Q) : zRW M k b pc ls (zI v :: zI i :: zA a :: st) 143 h Q := z_zast hd ha (z_n ha) h0 h1 hv kk
theorem z_iretG {Q' : Option zV → Nat → zHp → Prop} {ty : FieldType} (hd : zDC M pc .ireturn 1 pc') (ht : M.2.2.2 = some ty) (hn : narrow ty (.int (Int32.ofInt v)) = .int (Int32.ofInt v)) (hq : Q' (some (zI v)) n h) : zRW M k b pc ls [zI v] n h Q' := by
  intro G d mc ms p l e s m args below meth c H locs cells slots lr hk C hl hst hH hS hc1 hc2 hz
  obtain ⟨hdec, rfl⟩ := hd
  refine W.widen (k := mc) (n := ms) (by omega) (by omega) ?_
  exact W.zret (v := Int32.ofInt v) C.1 C.2.1 (C.2.2.2.1.trans ht) hn (fun t ht hW => ⟨⟨some (zI v), n, h, rfl, fun q e => by cases e; exact hst _ List.mem_cons_self, hq, by rw [ht]; exact hH⟩, hS.F ht⟩) hS.2.2 hdec C.2.2.2.2.1
theorem z_lretG {Q' : Option zV → Nat → zHp → Prop} (hd : zDC M pc .lreturn 1 pc') (ht : M.2.2.2 = some .long) (hq : Q' (some (zJ v)) n h) : zRW M k b pc ls [zJ v] n h Q' := by
  intro G d mc ms p l e s m args below meth c H locs cells slots lr hk C hl hst hH hS hc1 hc2 hz
  obtain ⟨hdec, rfl⟩ := hd
  refine W.widen (k := mc) (n := ms) (by omega) (by omega) ?_
  exact W.lret (v := Int64.ofInt v) C.1 C.2.1 (C.2.2.2.1.trans ht) (fun t ht hW => ⟨⟨some (zJ v), n, h, rfl, fun q e => by cases e; exact hst _ List.mem_cons_self, hq, by rw [ht]; exact hH⟩, hS.F ht⟩) hS.2.2 hdec C.2.2.2.2.1
theorem z_vretG {Q' : Option zV → Nat → zHp → Prop} (hd : zDC M pc .return_ 1 pc') (ht : M.2.2.2 = none) (hq : Q' none n h) : zRW M k b pc ls [] n h Q' := by
  intro G d mc ms p l e s m args below meth c H locs cells slots lr hk C hl hst hH hS hc1 hc2 hz
  obtain ⟨hdec, rfl⟩ := hd
  refine W.widen (k := mc) (n := ms) (by omega) (by omega) ?_
  exact W.vret C.1 C.2.1 (C.2.2.2.1.trans ht) (fun t ht hW => ⟨⟨none, n, h, rfl, fun q e => (by cases e), hq, by rw [ht]; exact hH⟩, hS.F ht⟩) hS.2.2 hdec C.2.2.2.2.1
theorem ze_i {Q' : Int → zHp → Prop} (hd : zDC M pc .ireturn 1 pc') (ht : M.2.2.2 = some .int) (hq : Q' v h) : zRW M k b pc ls [zI v] 143 h (zqi Q') := z_iretG hd ht rfl ⟨rfl, v, rfl, hq⟩
theorem ze_z {Q' : Int → zHp → Prop} (hd : zDC M pc .ireturn 1 pc') (ht : M.2.2.2 = some .boolean) (hv : v = 0 ∨ v = 1) (hq : Q' v h) : zRW M k b pc ls [zI v] 143 h (zqi Q') := z_iretG hd ht (by rcases hv with rfl | rfl <;> rfl) ⟨rfl, v, rfl, hq⟩
theorem ze_j {Q' : Int → zHp → Prop} (hd : zDC M pc .lreturn 1 pc') (ht : M.2.2.2 = some .long) (hq : Q' v h) : zRW M k b pc ls [zJ v] 143 h (zqj Q') := z_lretG hd ht ⟨rfl, v, rfl, hq⟩
theorem ze_v {Q' : zHp → Prop} (hd : zDC M pc .return_ 1 pc') (ht : M.2.2.2 = none) (hq : Q' h) : zRW M k b pc ls [] 143 h (zqv Q') := z_vretG hd ht ⟨rfl, rfl, hq⟩
theorem zc_vi0 {Q' : Int → zHp → Prop} (hd : zDC M pc (.invokevirtual idx) 3 pc') (hl : zLk M.1.cls idx N) (hm : zMt N ci 0) (ha : zSH[a]? = some (ci, sz)) (hk : kc + 1 ≤ k) (hsz : zSz st ≤ 8) (hc : zCi N kc (zA a :: []) h Q') (kk : ∀ v h', Q' v h' → z32 v → zRW M k (0, 0) pc' ls (zI v :: st) 143 h' Q) : zRW M k (0, 0) pc ls (zA a :: st) 143 h Q := z_inv (as := []) hd hl hm hc hk (Nat.le_refl _) (Nat.le_refl _) ha (z_n ha) rfl hsz (fun r n' h' hq h142 => by have := hq.1; omega) (fun r n' h' hr hq => by
  obtain ⟨rfl, v, rfl, hq⟩ := hq
  exact kk v h' hq (hr _ rfl))
theorem zc_vi1 {x0 : zV} {Q' : Int → zHp → Prop} (hd : zDC M pc (.invokevirtual idx) 3 pc') (hl : zLk M.1.cls idx N) (hm : zMt N ci 1) (ha : zSH[a]? = some (ci, sz)) (hk : kc + 1 ≤ k) (hsz : zSz st ≤ 8) (hc : zCi N kc (zA a :: [x0]) h Q') (kk : ∀ v h', Q' v h' → z32 v → zRW M k (0, 0) pc' ls (zI v :: st) 143 h' Q) : zRW M k (0, 0) pc ls (x0 :: zA a :: st) 143 h Q := z_inv (as := [x0]) hd hl hm hc hk (Nat.le_refl _) (Nat.le_refl _) ha (z_n ha) rfl hsz (fun r n' h' hq h142 => by have := hq.1; omega) (fun r n' h' hr hq => by
  obtain ⟨rfl, v, rfl, hq⟩ := hq
  exact kk v h' hq (hr _ rfl))
theorem zc_vi2 {x0 x1 : zV} {Q' : Int → zHp → Prop} (hd : zDC M pc (.invokevirtual idx) 3 pc') (hl : zLk M.1.cls idx N) (hm : zMt N ci 2) (ha : zSH[a]? = some (ci, sz)) (hk : kc + 1 ≤ k) (hsz : zSz st ≤ 8) (hc : zCi N kc (zA a :: [x0, x1]) h Q') (kk : ∀ v h', Q' v h' → z32 v → zRW M k (0, 0) pc' ls (zI v :: st) 143 h' Q) : zRW M k (0, 0) pc ls (x1 :: x0 :: zA a :: st) 143 h Q := z_inv (as := [x0, x1]) hd hl hm hc hk (Nat.le_refl _) (Nat.le_refl _) ha (z_n ha) rfl hsz (fun r n' h' hq h142 => by have := hq.1; omega) (fun r n' h' hr hq => by
  obtain ⟨rfl, v, rfl, hq⟩ := hq
  exact kk v h' hq (hr _ rfl))
theorem zc_vi3 {x0 x1 x2 : zV} {Q' : Int → zHp → Prop} (hd : zDC M pc (.invokevirtual idx) 3 pc') (hl : zLk M.1.cls idx N) (hm : zMt N ci 3) (ha : zSH[a]? = some (ci, sz)) (hk : kc + 1 ≤ k) (hsz : zSz st ≤ 8) (hc : zCi N kc (zA a :: [x0, x1, x2]) h Q') (kk : ∀ v h', Q' v h' → z32 v → zRW M k (0, 0) pc' ls (zI v :: st) 143 h' Q) : zRW M k (0, 0) pc ls (x2 :: x1 :: x0 :: zA a :: st) 143 h Q := z_inv (as := [x0, x1, x2]) hd hl hm hc hk (Nat.le_refl _) (Nat.le_refl _) ha (z_n ha) rfl hsz (fun r n' h' hq h142 => by have := hq.1; omega) (fun r n' h' hr hq => by
  obtain ⟨rfl, v, rfl, hq⟩ := hq
  exact kk v h' hq (hr _ rfl))
theorem zc_vi4 {x0 x1 x2 x3 : zV} {Q' : Int → zHp → Prop} (hd : zDC M pc (.invokevirtual idx) 3 pc') (hl : zLk M.1.cls idx N) (hm : zMt N ci 4) (ha : zSH[a]? = some (ci, sz)) (hk : kc + 1 ≤ k) (hsz : zSz st ≤ 8) (hc : zCi N kc (zA a :: [x0, x1, x2, x3]) h Q') (kk : ∀ v h', Q' v h' → z32 v → zRW M k (0, 0) pc' ls (zI v :: st) 143 h' Q) : zRW M k (0, 0) pc ls (x3 :: x2 :: x1 :: x0 :: zA a :: st) 143 h Q := z_inv (as := [x0, x1, x2, x3]) hd hl hm hc hk (Nat.le_refl _) (Nat.le_refl _) ha (z_n ha) rfl hsz (fun r n' h' hq h142 => by have := hq.1; omega) (fun r n' h' hr hq => by
  obtain ⟨rfl, v, rfl, hq⟩ := hq
  exact kk v h' hq (hr _ rfl))
theorem zc_vi5 {x0 x1 x2 x3 x4 : zV} {Q' : Int → zHp → Prop} (hd : zDC M pc (.invokevirtual idx) 3 pc') (hl : zLk M.1.cls idx N) (hm : zMt N ci 5) (ha : zSH[a]? = some (ci, sz)) (hk : kc + 1 ≤ k) (hsz : zSz st ≤ 8) (hc : zCi N kc (zA a :: [x0, x1, x2, x3, x4]) h Q') (kk : ∀ v h', Q' v h' → z32 v → zRW M k (0, 0) pc' ls (zI v :: st) 143 h' Q) : zRW M k (0, 0) pc ls (x4 :: x3 :: x2 :: x1 :: x0 :: zA a :: st) 143 h Q := z_inv (as := [x0, x1, x2, x3, x4]) hd hl hm hc hk (Nat.le_refl _) (Nat.le_refl _) ha (z_n ha) rfl hsz (fun r n' h' hq h142 => by have := hq.1; omega) (fun r n' h' hr hq => by
  obtain ⟨rfl, v, rfl, hq⟩ := hq
  exact kk v h' hq (hr _ rfl))
theorem zc_vi6 {x0 x1 x2 x3 x4 x5 : zV} {Q' : Int → zHp → Prop} (hd : zDC M pc (.invokevirtual idx) 3 pc') (hl : zLk M.1.cls idx N) (hm : zMt N ci 6) (ha : zSH[a]? = some (ci, sz)) (hk : kc + 1 ≤ k) (hsz : zSz st ≤ 8) (hc : zCi N kc (zA a :: [x0, x1, x2, x3, x4, x5]) h Q') (kk : ∀ v h', Q' v h' → z32 v → zRW M k (0, 0) pc' ls (zI v :: st) 143 h' Q) : zRW M k (0, 0) pc ls (x5 :: x4 :: x3 :: x2 :: x1 :: x0 :: zA a :: st) 143 h Q := z_inv (as := [x0, x1, x2, x3, x4, x5]) hd hl hm hc hk (Nat.le_refl _) (Nat.le_refl _) ha (z_n ha) rfl hsz (fun r n' h' hq h142 => by have := hq.1; omega) (fun r n' h' hr hq => by
  obtain ⟨rfl, v, rfl, hq⟩ := hq
  exact kk v h' hq (hr _ rfl))
theorem zc_vj0 {Q' : Int → zHp → Prop} (hd : zDC M pc (.invokevirtual idx) 3 pc') (hl : zLk M.1.cls idx N) (hm : zMt N ci 0) (ha : zSH[a]? = some (ci, sz)) (hk : kc + 1 ≤ k) (hsz : zSz st ≤ 8) (hc : zCj N kc (zA a :: []) h Q') (kk : ∀ v h', Q' v h' → z64 v → zRW M k (0, 0) pc' ls (zJ v :: st) 143 h' Q) : zRW M k (0, 0) pc ls (zA a :: st) 143 h Q := z_inv (as := []) hd hl hm hc hk (Nat.le_refl _) (Nat.le_refl _) ha (z_n ha) rfl hsz (fun r n' h' hq h142 => by have := hq.1; omega) (fun r n' h' hr hq => by
  obtain ⟨rfl, v, rfl, hq⟩ := hq
  exact kk v h' hq (hr _ rfl))
theorem zc_vj1 {x0 : zV} {Q' : Int → zHp → Prop} (hd : zDC M pc (.invokevirtual idx) 3 pc') (hl : zLk M.1.cls idx N) (hm : zMt N ci 1) (ha : zSH[a]? = some (ci, sz)) (hk : kc + 1 ≤ k) (hsz : zSz st ≤ 8) (hc : zCj N kc (zA a :: [x0]) h Q') (kk : ∀ v h', Q' v h' → z64 v → zRW M k (0, 0) pc' ls (zJ v :: st) 143 h' Q) : zRW M k (0, 0) pc ls (x0 :: zA a :: st) 143 h Q := z_inv (as := [x0]) hd hl hm hc hk (Nat.le_refl _) (Nat.le_refl _) ha (z_n ha) rfl hsz (fun r n' h' hq h142 => by have := hq.1; omega) (fun r n' h' hr hq => by
  obtain ⟨rfl, v, rfl, hq⟩ := hq
  exact kk v h' hq (hr _ rfl))
theorem zc_vj2 {x0 x1 : zV} {Q' : Int → zHp → Prop} (hd : zDC M pc (.invokevirtual idx) 3 pc') (hl : zLk M.1.cls idx N) (hm : zMt N ci 2) (ha : zSH[a]? = some (ci, sz)) (hk : kc + 1 ≤ k) (hsz : zSz st ≤ 8) (hc : zCj N kc (zA a :: [x0, x1]) h Q') (kk : ∀ v h', Q' v h' → z64 v → zRW M k (0, 0) pc' ls (zJ v :: st) 143 h' Q) : zRW M k (0, 0) pc ls (x1 :: x0 :: zA a :: st) 143 h Q := z_inv (as := [x0, x1]) hd hl hm hc hk (Nat.le_refl _) (Nat.le_refl _) ha (z_n ha) rfl hsz (fun r n' h' hq h142 => by have := hq.1; omega) (fun r n' h' hr hq => by
  obtain ⟨rfl, v, rfl, hq⟩ := hq
  exact kk v h' hq (hr _ rfl))
theorem zc_vj3 {x0 x1 x2 : zV} {Q' : Int → zHp → Prop} (hd : zDC M pc (.invokevirtual idx) 3 pc') (hl : zLk M.1.cls idx N) (hm : zMt N ci 3) (ha : zSH[a]? = some (ci, sz)) (hk : kc + 1 ≤ k) (hsz : zSz st ≤ 8) (hc : zCj N kc (zA a :: [x0, x1, x2]) h Q') (kk : ∀ v h', Q' v h' → z64 v → zRW M k (0, 0) pc' ls (zJ v :: st) 143 h' Q) : zRW M k (0, 0) pc ls (x2 :: x1 :: x0 :: zA a :: st) 143 h Q := z_inv (as := [x0, x1, x2]) hd hl hm hc hk (Nat.le_refl _) (Nat.le_refl _) ha (z_n ha) rfl hsz (fun r n' h' hq h142 => by have := hq.1; omega) (fun r n' h' hr hq => by
  obtain ⟨rfl, v, rfl, hq⟩ := hq
  exact kk v h' hq (hr _ rfl))
theorem zc_vj4 {x0 x1 x2 x3 : zV} {Q' : Int → zHp → Prop} (hd : zDC M pc (.invokevirtual idx) 3 pc') (hl : zLk M.1.cls idx N) (hm : zMt N ci 4) (ha : zSH[a]? = some (ci, sz)) (hk : kc + 1 ≤ k) (hsz : zSz st ≤ 8) (hc : zCj N kc (zA a :: [x0, x1, x2, x3]) h Q') (kk : ∀ v h', Q' v h' → z64 v → zRW M k (0, 0) pc' ls (zJ v :: st) 143 h' Q) : zRW M k (0, 0) pc ls (x3 :: x2 :: x1 :: x0 :: zA a :: st) 143 h Q := z_inv (as := [x0, x1, x2, x3]) hd hl hm hc hk (Nat.le_refl _) (Nat.le_refl _) ha (z_n ha) rfl hsz (fun r n' h' hq h142 => by have := hq.1; omega) (fun r n' h' hr hq => by
  obtain ⟨rfl, v, rfl, hq⟩ := hq
  exact kk v h' hq (hr _ rfl))
theorem zc_vj5 {x0 x1 x2 x3 x4 : zV} {Q' : Int → zHp → Prop} (hd : zDC M pc (.invokevirtual idx) 3 pc') (hl : zLk M.1.cls idx N) (hm : zMt N ci 5) (ha : zSH[a]? = some (ci, sz)) (hk : kc + 1 ≤ k) (hsz : zSz st ≤ 8) (hc : zCj N kc (zA a :: [x0, x1, x2, x3, x4]) h Q') (kk : ∀ v h', Q' v h' → z64 v → zRW M k (0, 0) pc' ls (zJ v :: st) 143 h' Q) : zRW M k (0, 0) pc ls (x4 :: x3 :: x2 :: x1 :: x0 :: zA a :: st) 143 h Q := z_inv (as := [x0, x1, x2, x3, x4]) hd hl hm hc hk (Nat.le_refl _) (Nat.le_refl _) ha (z_n ha) rfl hsz (fun r n' h' hq h142 => by have := hq.1; omega) (fun r n' h' hr hq => by
  obtain ⟨rfl, v, rfl, hq⟩ := hq
  exact kk v h' hq (hr _ rfl))
theorem zc_vj6 {x0 x1 x2 x3 x4 x5 : zV} {Q' : Int → zHp → Prop} (hd : zDC M pc (.invokevirtual idx) 3 pc') (hl : zLk M.1.cls idx N) (hm : zMt N ci 6) (ha : zSH[a]? = some (ci, sz)) (hk : kc + 1 ≤ k) (hsz : zSz st ≤ 8) (hc : zCj N kc (zA a :: [x0, x1, x2, x3, x4, x5]) h Q') (kk : ∀ v h', Q' v h' → z64 v → zRW M k (0, 0) pc' ls (zJ v :: st) 143 h' Q) : zRW M k (0, 0) pc ls (x5 :: x4 :: x3 :: x2 :: x1 :: x0 :: zA a :: st) 143 h Q := z_inv (as := [x0, x1, x2, x3, x4, x5]) hd hl hm hc hk (Nat.le_refl _) (Nat.le_refl _) ha (z_n ha) rfl hsz (fun r n' h' hq h142 => by have := hq.1; omega) (fun r n' h' hr hq => by
  obtain ⟨rfl, v, rfl, hq⟩ := hq
  exact kk v h' hq (hr _ rfl))
theorem zc_vv0 {Q' : zHp → Prop} (hd : zDC M pc (.invokevirtual idx) 3 pc') (hl : zLk M.1.cls idx N) (hm : zMt N ci 0) (ha : zSH[a]? = some (ci, sz)) (hk : kc + 1 ≤ k) (hsz : zSz st ≤ 8) (hc : zCv N kc (zA a :: []) h Q') (kk : ∀ h', Q' h' → zRW M k (0, 0) pc' ls st 143 h' Q) : zRW M k (0, 0) pc ls (zA a :: st) 143 h Q := z_inv (as := []) hd hl hm hc hk (Nat.le_refl _) (Nat.le_refl _) ha (z_n ha) rfl hsz (fun r n' h' hq h142 => by have := hq.1; omega) (fun r n' h' hr hq => by
  obtain ⟨rfl, rfl, hq⟩ := hq
  exact kk h' hq)
theorem zc_vv1 {x0 : zV} {Q' : zHp → Prop} (hd : zDC M pc (.invokevirtual idx) 3 pc') (hl : zLk M.1.cls idx N) (hm : zMt N ci 1) (ha : zSH[a]? = some (ci, sz)) (hk : kc + 1 ≤ k) (hsz : zSz st ≤ 8) (hc : zCv N kc (zA a :: [x0]) h Q') (kk : ∀ h', Q' h' → zRW M k (0, 0) pc' ls st 143 h' Q) : zRW M k (0, 0) pc ls (x0 :: zA a :: st) 143 h Q := z_inv (as := [x0]) hd hl hm hc hk (Nat.le_refl _) (Nat.le_refl _) ha (z_n ha) rfl hsz (fun r n' h' hq h142 => by have := hq.1; omega) (fun r n' h' hr hq => by
  obtain ⟨rfl, rfl, hq⟩ := hq
  exact kk h' hq)
theorem zc_vv2 {x0 x1 : zV} {Q' : zHp → Prop} (hd : zDC M pc (.invokevirtual idx) 3 pc') (hl : zLk M.1.cls idx N) (hm : zMt N ci 2) (ha : zSH[a]? = some (ci, sz)) (hk : kc + 1 ≤ k) (hsz : zSz st ≤ 8) (hc : zCv N kc (zA a :: [x0, x1]) h Q') (kk : ∀ h', Q' h' → zRW M k (0, 0) pc' ls st 143 h' Q) : zRW M k (0, 0) pc ls (x1 :: x0 :: zA a :: st) 143 h Q := z_inv (as := [x0, x1]) hd hl hm hc hk (Nat.le_refl _) (Nat.le_refl _) ha (z_n ha) rfl hsz (fun r n' h' hq h142 => by have := hq.1; omega) (fun r n' h' hr hq => by
  obtain ⟨rfl, rfl, hq⟩ := hq
  exact kk h' hq)
theorem zc_vv3 {x0 x1 x2 : zV} {Q' : zHp → Prop} (hd : zDC M pc (.invokevirtual idx) 3 pc') (hl : zLk M.1.cls idx N) (hm : zMt N ci 3) (ha : zSH[a]? = some (ci, sz)) (hk : kc + 1 ≤ k) (hsz : zSz st ≤ 8) (hc : zCv N kc (zA a :: [x0, x1, x2]) h Q') (kk : ∀ h', Q' h' → zRW M k (0, 0) pc' ls st 143 h' Q) : zRW M k (0, 0) pc ls (x2 :: x1 :: x0 :: zA a :: st) 143 h Q := z_inv (as := [x0, x1, x2]) hd hl hm hc hk (Nat.le_refl _) (Nat.le_refl _) ha (z_n ha) rfl hsz (fun r n' h' hq h142 => by have := hq.1; omega) (fun r n' h' hr hq => by
  obtain ⟨rfl, rfl, hq⟩ := hq
  exact kk h' hq)
theorem zc_vv4 {x0 x1 x2 x3 : zV} {Q' : zHp → Prop} (hd : zDC M pc (.invokevirtual idx) 3 pc') (hl : zLk M.1.cls idx N) (hm : zMt N ci 4) (ha : zSH[a]? = some (ci, sz)) (hk : kc + 1 ≤ k) (hsz : zSz st ≤ 8) (hc : zCv N kc (zA a :: [x0, x1, x2, x3]) h Q') (kk : ∀ h', Q' h' → zRW M k (0, 0) pc' ls st 143 h' Q) : zRW M k (0, 0) pc ls (x3 :: x2 :: x1 :: x0 :: zA a :: st) 143 h Q := z_inv (as := [x0, x1, x2, x3]) hd hl hm hc hk (Nat.le_refl _) (Nat.le_refl _) ha (z_n ha) rfl hsz (fun r n' h' hq h142 => by have := hq.1; omega) (fun r n' h' hr hq => by
  obtain ⟨rfl, rfl, hq⟩ := hq
  exact kk h' hq)
theorem zc_vv5 {x0 x1 x2 x3 x4 : zV} {Q' : zHp → Prop} (hd : zDC M pc (.invokevirtual idx) 3 pc') (hl : zLk M.1.cls idx N) (hm : zMt N ci 5) (ha : zSH[a]? = some (ci, sz)) (hk : kc + 1 ≤ k) (hsz : zSz st ≤ 8) (hc : zCv N kc (zA a :: [x0, x1, x2, x3, x4]) h Q') (kk : ∀ h', Q' h' → zRW M k (0, 0) pc' ls st 143 h' Q) : zRW M k (0, 0) pc ls (x4 :: x3 :: x2 :: x1 :: x0 :: zA a :: st) 143 h Q := z_inv (as := [x0, x1, x2, x3, x4]) hd hl hm hc hk (Nat.le_refl _) (Nat.le_refl _) ha (z_n ha) rfl hsz (fun r n' h' hq h142 => by have := hq.1; omega) (fun r n' h' hr hq => by
  obtain ⟨rfl, rfl, hq⟩ := hq
  exact kk h' hq)
theorem zc_vv6 {x0 x1 x2 x3 x4 x5 : zV} {Q' : zHp → Prop} (hd : zDC M pc (.invokevirtual idx) 3 pc') (hl : zLk M.1.cls idx N) (hm : zMt N ci 6) (ha : zSH[a]? = some (ci, sz)) (hk : kc + 1 ≤ k) (hsz : zSz st ≤ 8) (hc : zCv N kc (zA a :: [x0, x1, x2, x3, x4, x5]) h Q') (kk : ∀ h', Q' h' → zRW M k (0, 0) pc' ls st 143 h' Q) : zRW M k (0, 0) pc ls (x5 :: x4 :: x3 :: x2 :: x1 :: x0 :: zA a :: st) 143 h Q := z_inv (as := [x0, x1, x2, x3, x4, x5]) hd hl hm hc hk (Nat.le_refl _) (Nat.le_refl _) ha (z_n ha) rfl hsz (fun r n' h' hq h142 => by have := hq.1; omega) (fun r n' h' hr hq => by
  obtain ⟨rfl, rfl, hq⟩ := hq
  exact kk h' hq)
theorem zc_si0 {Q' : Int → zHp → Prop} (hd : zDC M pc (.invokestatic idx) 3 pc') (hl : zLk M.1.cls idx N) (hm : zMs N 0) (hk : kc + 1 ≤ k) (hsz : zSz st ≤ 8) (hc : zCi N kc [] h Q') (kk : ∀ v h', Q' v h' → z32 v → zRW M k (0, 0) pc' ls (zI v :: st) 143 h' Q) : zRW M k (0, 0) pc ls (st) 143 h Q := z_ins (as := []) hd hl hm hc hk (Nat.le_refl _) (Nat.le_refl _) rfl hsz (fun r n' h' hq h142 => by have := hq.1; omega) (fun r n' h' hr hq => by
  obtain ⟨rfl, v, rfl, hq⟩ := hq
  exact kk v h' hq (hr _ rfl))
theorem zc_si1 {x0 : zV} {Q' : Int → zHp → Prop} (hd : zDC M pc (.invokestatic idx) 3 pc') (hl : zLk M.1.cls idx N) (hm : zMs N 1) (hk : kc + 1 ≤ k) (hsz : zSz st ≤ 8) (hc : zCi N kc [x0] h Q') (kk : ∀ v h', Q' v h' → z32 v → zRW M k (0, 0) pc' ls (zI v :: st) 143 h' Q) : zRW M k (0, 0) pc ls (x0 :: st) 143 h Q := z_ins (as := [x0]) hd hl hm hc hk (Nat.le_refl _) (Nat.le_refl _) rfl hsz (fun r n' h' hq h142 => by have := hq.1; omega) (fun r n' h' hr hq => by
  obtain ⟨rfl, v, rfl, hq⟩ := hq
  exact kk v h' hq (hr _ rfl))
theorem zc_si2 {x0 x1 : zV} {Q' : Int → zHp → Prop} (hd : zDC M pc (.invokestatic idx) 3 pc') (hl : zLk M.1.cls idx N) (hm : zMs N 2) (hk : kc + 1 ≤ k) (hsz : zSz st ≤ 8) (hc : zCi N kc [x0, x1] h Q') (kk : ∀ v h', Q' v h' → z32 v → zRW M k (0, 0) pc' ls (zI v :: st) 143 h' Q) : zRW M k (0, 0) pc ls (x1 :: x0 :: st) 143 h Q := z_ins (as := [x0, x1]) hd hl hm hc hk (Nat.le_refl _) (Nat.le_refl _) rfl hsz (fun r n' h' hq h142 => by have := hq.1; omega) (fun r n' h' hr hq => by
  obtain ⟨rfl, v, rfl, hq⟩ := hq
  exact kk v h' hq (hr _ rfl))
theorem zc_si3 {x0 x1 x2 : zV} {Q' : Int → zHp → Prop} (hd : zDC M pc (.invokestatic idx) 3 pc') (hl : zLk M.1.cls idx N) (hm : zMs N 3) (hk : kc + 1 ≤ k) (hsz : zSz st ≤ 8) (hc : zCi N kc [x0, x1, x2] h Q') (kk : ∀ v h', Q' v h' → z32 v → zRW M k (0, 0) pc' ls (zI v :: st) 143 h' Q) : zRW M k (0, 0) pc ls (x2 :: x1 :: x0 :: st) 143 h Q := z_ins (as := [x0, x1, x2]) hd hl hm hc hk (Nat.le_refl _) (Nat.le_refl _) rfl hsz (fun r n' h' hq h142 => by have := hq.1; omega) (fun r n' h' hr hq => by
  obtain ⟨rfl, v, rfl, hq⟩ := hq
  exact kk v h' hq (hr _ rfl))
theorem zc_si4 {x0 x1 x2 x3 : zV} {Q' : Int → zHp → Prop} (hd : zDC M pc (.invokestatic idx) 3 pc') (hl : zLk M.1.cls idx N) (hm : zMs N 4) (hk : kc + 1 ≤ k) (hsz : zSz st ≤ 8) (hc : zCi N kc [x0, x1, x2, x3] h Q') (kk : ∀ v h', Q' v h' → z32 v → zRW M k (0, 0) pc' ls (zI v :: st) 143 h' Q) : zRW M k (0, 0) pc ls (x3 :: x2 :: x1 :: x0 :: st) 143 h Q := z_ins (as := [x0, x1, x2, x3]) hd hl hm hc hk (Nat.le_refl _) (Nat.le_refl _) rfl hsz (fun r n' h' hq h142 => by have := hq.1; omega) (fun r n' h' hr hq => by
  obtain ⟨rfl, v, rfl, hq⟩ := hq
  exact kk v h' hq (hr _ rfl))
theorem zc_si5 {x0 x1 x2 x3 x4 : zV} {Q' : Int → zHp → Prop} (hd : zDC M pc (.invokestatic idx) 3 pc') (hl : zLk M.1.cls idx N) (hm : zMs N 5) (hk : kc + 1 ≤ k) (hsz : zSz st ≤ 8) (hc : zCi N kc [x0, x1, x2, x3, x4] h Q') (kk : ∀ v h', Q' v h' → z32 v → zRW M k (0, 0) pc' ls (zI v :: st) 143 h' Q) : zRW M k (0, 0) pc ls (x4 :: x3 :: x2 :: x1 :: x0 :: st) 143 h Q := z_ins (as := [x0, x1, x2, x3, x4]) hd hl hm hc hk (Nat.le_refl _) (Nat.le_refl _) rfl hsz (fun r n' h' hq h142 => by have := hq.1; omega) (fun r n' h' hr hq => by
  obtain ⟨rfl, v, rfl, hq⟩ := hq
  exact kk v h' hq (hr _ rfl))
theorem zc_si6 {x0 x1 x2 x3 x4 x5 : zV} {Q' : Int → zHp → Prop} (hd : zDC M pc (.invokestatic idx) 3 pc') (hl : zLk M.1.cls idx N) (hm : zMs N 6) (hk : kc + 1 ≤ k) (hsz : zSz st ≤ 8) (hc : zCi N kc [x0, x1, x2, x3, x4, x5] h Q') (kk : ∀ v h', Q' v h' → z32 v → zRW M k (0, 0) pc' ls (zI v :: st) 143 h' Q) : zRW M k (0, 0) pc ls (x5 :: x4 :: x3 :: x2 :: x1 :: x0 :: st) 143 h Q := z_ins (as := [x0, x1, x2, x3, x4, x5]) hd hl hm hc hk (Nat.le_refl _) (Nat.le_refl _) rfl hsz (fun r n' h' hq h142 => by have := hq.1; omega) (fun r n' h' hr hq => by
  obtain ⟨rfl, v, rfl, hq⟩ := hq
  exact kk v h' hq (hr _ rfl))
theorem zc_sj0 {Q' : Int → zHp → Prop} (hd : zDC M pc (.invokestatic idx) 3 pc') (hl : zLk M.1.cls idx N) (hm : zMs N 0) (hk : kc + 1 ≤ k) (hsz : zSz st ≤ 8) (hc : zCj N kc [] h Q') (kk : ∀ v h', Q' v h' → z64 v → zRW M k (0, 0) pc' ls (zJ v :: st) 143 h' Q) : zRW M k (0, 0) pc ls (st) 143 h Q := z_ins (as := []) hd hl hm hc hk (Nat.le_refl _) (Nat.le_refl _) rfl hsz (fun r n' h' hq h142 => by have := hq.1; omega) (fun r n' h' hr hq => by
  obtain ⟨rfl, v, rfl, hq⟩ := hq
  exact kk v h' hq (hr _ rfl))
theorem zc_sj1 {x0 : zV} {Q' : Int → zHp → Prop} (hd : zDC M pc (.invokestatic idx) 3 pc') (hl : zLk M.1.cls idx N) (hm : zMs N 1) (hk : kc + 1 ≤ k) (hsz : zSz st ≤ 8) (hc : zCj N kc [x0] h Q') (kk : ∀ v h', Q' v h' → z64 v → zRW M k (0, 0) pc' ls (zJ v :: st) 143 h' Q) : zRW M k (0, 0) pc ls (x0 :: st) 143 h Q := z_ins (as := [x0]) hd hl hm hc hk (Nat.le_refl _) (Nat.le_refl _) rfl hsz (fun r n' h' hq h142 => by have := hq.1; omega) (fun r n' h' hr hq => by
  obtain ⟨rfl, v, rfl, hq⟩ := hq
  exact kk v h' hq (hr _ rfl))
theorem zc_sj2 {x0 x1 : zV} {Q' : Int → zHp → Prop} (hd : zDC M pc (.invokestatic idx) 3 pc') (hl : zLk M.1.cls idx N) (hm : zMs N 2) (hk : kc + 1 ≤ k) (hsz : zSz st ≤ 8) (hc : zCj N kc [x0, x1] h Q') (kk : ∀ v h', Q' v h' → z64 v → zRW M k (0, 0) pc' ls (zJ v :: st) 143 h' Q) : zRW M k (0, 0) pc ls (x1 :: x0 :: st) 143 h Q := z_ins (as := [x0, x1]) hd hl hm hc hk (Nat.le_refl _) (Nat.le_refl _) rfl hsz (fun r n' h' hq h142 => by have := hq.1; omega) (fun r n' h' hr hq => by
  obtain ⟨rfl, v, rfl, hq⟩ := hq
  exact kk v h' hq (hr _ rfl))
theorem zc_sj3 {x0 x1 x2 : zV} {Q' : Int → zHp → Prop} (hd : zDC M pc (.invokestatic idx) 3 pc') (hl : zLk M.1.cls idx N) (hm : zMs N 3) (hk : kc + 1 ≤ k) (hsz : zSz st ≤ 8) (hc : zCj N kc [x0, x1, x2] h Q') (kk : ∀ v h', Q' v h' → z64 v → zRW M k (0, 0) pc' ls (zJ v :: st) 143 h' Q) : zRW M k (0, 0) pc ls (x2 :: x1 :: x0 :: st) 143 h Q := z_ins (as := [x0, x1, x2]) hd hl hm hc hk (Nat.le_refl _) (Nat.le_refl _) rfl hsz (fun r n' h' hq h142 => by have := hq.1; omega) (fun r n' h' hr hq => by
  obtain ⟨rfl, v, rfl, hq⟩ := hq
  exact kk v h' hq (hr _ rfl))
theorem zc_sj4 {x0 x1 x2 x3 : zV} {Q' : Int → zHp → Prop} (hd : zDC M pc (.invokestatic idx) 3 pc') (hl : zLk M.1.cls idx N) (hm : zMs N 4) (hk : kc + 1 ≤ k) (hsz : zSz st ≤ 8) (hc : zCj N kc [x0, x1, x2, x3] h Q') (kk : ∀ v h', Q' v h' → z64 v → zRW M k (0, 0) pc' ls (zJ v :: st) 143 h' Q) : zRW M k (0, 0) pc ls (x3 :: x2 :: x1 :: x0 :: st) 143 h Q := z_ins (as := [x0, x1, x2, x3]) hd hl hm hc hk (Nat.le_refl _) (Nat.le_refl _) rfl hsz (fun r n' h' hq h142 => by have := hq.1; omega) (fun r n' h' hr hq => by
  obtain ⟨rfl, v, rfl, hq⟩ := hq
  exact kk v h' hq (hr _ rfl))
theorem zc_sj5 {x0 x1 x2 x3 x4 : zV} {Q' : Int → zHp → Prop} (hd : zDC M pc (.invokestatic idx) 3 pc') (hl : zLk M.1.cls idx N) (hm : zMs N 5) (hk : kc + 1 ≤ k) (hsz : zSz st ≤ 8) (hc : zCj N kc [x0, x1, x2, x3, x4] h Q') (kk : ∀ v h', Q' v h' → z64 v → zRW M k (0, 0) pc' ls (zJ v :: st) 143 h' Q) : zRW M k (0, 0) pc ls (x4 :: x3 :: x2 :: x1 :: x0 :: st) 143 h Q := z_ins (as := [x0, x1, x2, x3, x4]) hd hl hm hc hk (Nat.le_refl _) (Nat.le_refl _) rfl hsz (fun r n' h' hq h142 => by have := hq.1; omega) (fun r n' h' hr hq => by
  obtain ⟨rfl, v, rfl, hq⟩ := hq
  exact kk v h' hq (hr _ rfl))
theorem zc_sj6 {x0 x1 x2 x3 x4 x5 : zV} {Q' : Int → zHp → Prop} (hd : zDC M pc (.invokestatic idx) 3 pc') (hl : zLk M.1.cls idx N) (hm : zMs N 6) (hk : kc + 1 ≤ k) (hsz : zSz st ≤ 8) (hc : zCj N kc [x0, x1, x2, x3, x4, x5] h Q') (kk : ∀ v h', Q' v h' → z64 v → zRW M k (0, 0) pc' ls (zJ v :: st) 143 h' Q) : zRW M k (0, 0) pc ls (x5 :: x4 :: x3 :: x2 :: x1 :: x0 :: st) 143 h Q := z_ins (as := [x0, x1, x2, x3, x4, x5]) hd hl hm hc hk (Nat.le_refl _) (Nat.le_refl _) rfl hsz (fun r n' h' hq h142 => by have := hq.1; omega) (fun r n' h' hr hq => by
  obtain ⟨rfl, v, rfl, hq⟩ := hq
  exact kk v h' hq (hr _ rfl))
theorem zc_sv0 {Q' : zHp → Prop} (hd : zDC M pc (.invokestatic idx) 3 pc') (hl : zLk M.1.cls idx N) (hm : zMs N 0) (hk : kc + 1 ≤ k) (hsz : zSz st ≤ 8) (hc : zCv N kc [] h Q') (kk : ∀ h', Q' h' → zRW M k (0, 0) pc' ls st 143 h' Q) : zRW M k (0, 0) pc ls (st) 143 h Q := z_ins (as := []) hd hl hm hc hk (Nat.le_refl _) (Nat.le_refl _) rfl hsz (fun r n' h' hq h142 => by have := hq.1; omega) (fun r n' h' hr hq => by
  obtain ⟨rfl, rfl, hq⟩ := hq
  exact kk h' hq)
theorem zc_sv1 {x0 : zV} {Q' : zHp → Prop} (hd : zDC M pc (.invokestatic idx) 3 pc') (hl : zLk M.1.cls idx N) (hm : zMs N 1) (hk : kc + 1 ≤ k) (hsz : zSz st ≤ 8) (hc : zCv N kc [x0] h Q') (kk : ∀ h', Q' h' → zRW M k (0, 0) pc' ls st 143 h' Q) : zRW M k (0, 0) pc ls (x0 :: st) 143 h Q := z_ins (as := [x0]) hd hl hm hc hk (Nat.le_refl _) (Nat.le_refl _) rfl hsz (fun r n' h' hq h142 => by have := hq.1; omega) (fun r n' h' hr hq => by
  obtain ⟨rfl, rfl, hq⟩ := hq
  exact kk h' hq)
theorem zc_sv2 {x0 x1 : zV} {Q' : zHp → Prop} (hd : zDC M pc (.invokestatic idx) 3 pc') (hl : zLk M.1.cls idx N) (hm : zMs N 2) (hk : kc + 1 ≤ k) (hsz : zSz st ≤ 8) (hc : zCv N kc [x0, x1] h Q') (kk : ∀ h', Q' h' → zRW M k (0, 0) pc' ls st 143 h' Q) : zRW M k (0, 0) pc ls (x1 :: x0 :: st) 143 h Q := z_ins (as := [x0, x1]) hd hl hm hc hk (Nat.le_refl _) (Nat.le_refl _) rfl hsz (fun r n' h' hq h142 => by have := hq.1; omega) (fun r n' h' hr hq => by
  obtain ⟨rfl, rfl, hq⟩ := hq
  exact kk h' hq)
theorem zc_sv3 {x0 x1 x2 : zV} {Q' : zHp → Prop} (hd : zDC M pc (.invokestatic idx) 3 pc') (hl : zLk M.1.cls idx N) (hm : zMs N 3) (hk : kc + 1 ≤ k) (hsz : zSz st ≤ 8) (hc : zCv N kc [x0, x1, x2] h Q') (kk : ∀ h', Q' h' → zRW M k (0, 0) pc' ls st 143 h' Q) : zRW M k (0, 0) pc ls (x2 :: x1 :: x0 :: st) 143 h Q := z_ins (as := [x0, x1, x2]) hd hl hm hc hk (Nat.le_refl _) (Nat.le_refl _) rfl hsz (fun r n' h' hq h142 => by have := hq.1; omega) (fun r n' h' hr hq => by
  obtain ⟨rfl, rfl, hq⟩ := hq
  exact kk h' hq)
theorem zc_sv4 {x0 x1 x2 x3 : zV} {Q' : zHp → Prop} (hd : zDC M pc (.invokestatic idx) 3 pc') (hl : zLk M.1.cls idx N) (hm : zMs N 4) (hk : kc + 1 ≤ k) (hsz : zSz st ≤ 8) (hc : zCv N kc [x0, x1, x2, x3] h Q') (kk : ∀ h', Q' h' → zRW M k (0, 0) pc' ls st 143 h' Q) : zRW M k (0, 0) pc ls (x3 :: x2 :: x1 :: x0 :: st) 143 h Q := z_ins (as := [x0, x1, x2, x3]) hd hl hm hc hk (Nat.le_refl _) (Nat.le_refl _) rfl hsz (fun r n' h' hq h142 => by have := hq.1; omega) (fun r n' h' hr hq => by
  obtain ⟨rfl, rfl, hq⟩ := hq
  exact kk h' hq)
theorem zc_sv5 {x0 x1 x2 x3 x4 : zV} {Q' : zHp → Prop} (hd : zDC M pc (.invokestatic idx) 3 pc') (hl : zLk M.1.cls idx N) (hm : zMs N 5) (hk : kc + 1 ≤ k) (hsz : zSz st ≤ 8) (hc : zCv N kc [x0, x1, x2, x3, x4] h Q') (kk : ∀ h', Q' h' → zRW M k (0, 0) pc' ls st 143 h' Q) : zRW M k (0, 0) pc ls (x4 :: x3 :: x2 :: x1 :: x0 :: st) 143 h Q := z_ins (as := [x0, x1, x2, x3, x4]) hd hl hm hc hk (Nat.le_refl _) (Nat.le_refl _) rfl hsz (fun r n' h' hq h142 => by have := hq.1; omega) (fun r n' h' hr hq => by
  obtain ⟨rfl, rfl, hq⟩ := hq
  exact kk h' hq)
theorem zc_sv6 {x0 x1 x2 x3 x4 x5 : zV} {Q' : zHp → Prop} (hd : zDC M pc (.invokestatic idx) 3 pc') (hl : zLk M.1.cls idx N) (hm : zMs N 6) (hk : kc + 1 ≤ k) (hsz : zSz st ≤ 8) (hc : zCv N kc [x0, x1, x2, x3, x4, x5] h Q') (kk : ∀ h', Q' h' → zRW M k (0, 0) pc' ls st 143 h' Q) : zRW M k (0, 0) pc ls (x5 :: x4 :: x3 :: x2 :: x1 :: x0 :: st) 143 h Q := z_ins (as := [x0, x1, x2, x3, x4, x5]) hd hl hm hc hk (Nat.le_refl _) (Nat.le_refl _) rfl hsz (fun r n' h' hq h142 => by have := hq.1; omega) (fun r n' h' hr hq => by
  obtain ⟨rfl, rfl, hq⟩ := hq
  exact kk h' hq)
theorem zt_in {dflt lo hi off : Int} {offs : Array Int} {len : Nat} (j : Nat) (hd : zDC M pc (.tableswitch dflt lo hi offs) len pc') (hv : x = lo + j) (hj : lo + (j : Int) ≤ hi) (ho : offs[j]? = some off) (ht : (pc : Int) + off = (na : Int)) (kk : zRW M k b na ls st n h Q) : zRW M k b pc ls (zI x :: st) n h Q := by
  intro G d mc ms p l e s m args below meth c H locs cells slots lr hk C hl hst hH hS hc1 hc2 hz
  obtain ⟨hdec, rfl⟩ := hd
  have hx : z32 x := hst (zI x) (by simp)
  refine lv_tableIn C.1 C.2.1 hdec (by rw [z32_ti hx]; omega) (by rw [z32_ti hx]; omega) (off := off) (by rw [z32_ti hx, show (x - lo).toNat = j by omega]; exact ho) ht ?_
  exact kk G d mc ms p l e s m args below meth c H locs cells slots lr hk C hl (fun q hq => hst q (by simp [hq])) hH hS hc1 hc2 hz
theorem zt_out {dflt lo hi : Int} {offs : Array Int} {len : Nat} (hd : zDC M pc (.tableswitch dflt lo hi offs) len pc') (hv : x < lo ∨ hi < x) (ht : (pc : Int) + dflt = (na : Int)) (kk : zRW M k b na ls st n h Q) : zRW M k b pc ls (zI x :: st) n h Q := by
  intro G d mc ms p l e s m args below meth c H locs cells slots lr hk C hl hst hH hS hc1 hc2 hz
  obtain ⟨hdec, rfl⟩ := hd
  have hx : z32 x := hst (zI x) (by simp)
  refine lv_tableOut C.1 C.2.1 hdec (by rw [z32_ti hx]; exact hv) ht ?_
  exact kk G d mc ms p l e s m args below meth c H locs cells slots lr hk C hl (fun q hq => hst q (by simp [hq])) hH hS hc1 hc2 hz
theorem zt_lk {dflt off : Int} {ps : Array (Int × Int)} {len : Nat} (hd : zDC M pc (.lookupswitch dflt ps) len pc') (hp : (ps.toList.zip (ps.toList.drop 1)).all (fun (a, next) => a.1 < next.1) = true) (ho : Op.lookupswitch.offset ps.toList dflt x = off) (ht : (pc : Int) + off = (na : Int)) (kk : zRW M k b na ls st n h Q) : zRW M k b pc ls (zI x :: st) n h Q := by
  intro G d mc ms p l e s m args below meth c H locs cells slots lr hk C hl hst hH hS hc1 hc2 hz
  obtain ⟨hdec, rfl⟩ := hd
  have hx : z32 x := hst (zI x) (by simp)
  refine lv_lookup C.1 C.2.1 hdec hp (off := off) (by rw [z32_ti hx]; exact ho) ht ?_
  exact kk G d mc ms p l e s m args below meth c H locs cells slots lr hk C hl (fun q hq => hst q (by simp [hq])) hH hS hc1 hc2 hz
theorem zcp_rg {src sp dst dp cnt kd s0 s1 : Nat} (hr : zRg 143 h) (h0 : zSH[src]? = some (kd, s0)) (h1 : zSH[dst]? = some (kd, s1)) (hkd : 13 ≤ kd) (hs : sp + cnt ≤ s0) : zRg 143 (zcp h src sp dst dp cnt) := by
  intro a' i' kd' sz' q1 q2 q3
  unfold zcp
  split
  · next e =>
    obtain ⟨rfl, e1, e2⟩ := e
    cases h1.symm.trans q2
    have := hr src (sp + (i' - dp)) kd s0 (z_n h0) h0 (by omega)
    rw [zTA, if_neg (by omega)] at this ⊢
    exact this
  · exact hr a' i' kd' sz' q1 q2 q3
theorem zcp_sc {G : zG} {src sp dst dp cnt : Nat} {q : Nat × Nat} (hc : zSc G h) (h1 : zSH[dst]? = some q) : zSc G (zcp h src sp dst dp cnt) := by
  have := zsh_lt h1
  refine ⟨fun j hj => ?_, ?_⟩
  · rw [zcp_off (by omega)]
    exact hc.1 j hj
  · rw [zcp_off (by omega)]
    exact hc.2
theorem zcp_wd {src sp dst dp cnt kd s1 : Nat} (hw : zWd h) (h1 : zSH[dst]? = some (kd, s1)) (hkd : ∀ i, zIsR (zTA kd i) = false) : zWd (zcp h src sp dst dp cnt) := by
  intro a' i' kd' sz' q2 q3 q4
  unfold zcp
  split
  · next e =>
    obtain ⟨rfl, e1, e2⟩ := e
    cases h1.symm.trans q2
    rw [hkd] at q4
    cases q4
  · exact hw a' i' kd' sz' q2 q3 q4
set_option maxHeartbeats 2000000 in
theorem zy_i {a0 a1 s0 s1 : Nat} {kd : Nat} {sp dp cnt : Int} (hd : zDC M pc (.invokestatic idx) 3 pc') (hl' : zAC M.1.cls idx) (hkd : kd = 20 ∨ kd = 23) (ha0 : zSH[a0]? = some (kd, s0)) (ha1 : zSH[a1]? = some (kd, s1)) (h1 : 0 ≤ sp) (h2 : 0 ≤ dp) (h3 : 0 ≤ cnt) (h4 : sp + cnt ≤ s0) (h5 : dp + cnt ≤ s1) (hk1 : 1 ≤ k) (hsz : zSz st ≤ 8) (kk : zRW M k b pc' ls st 143 (zcp h a0 sp.toNat a1 dp.toNat cnt.toNat) Q) : zRW M k b pc ls (zI cnt :: zI dp :: zA a1 :: zI sp :: zA a0 :: st) 143 h Q := by
  intro G d mc ms p l e s m args below meth c H locs cells slots lr hk C hl hst hH hS hc1 hc2 hz
  obtain ⟨hdec, rfl⟩ := hd
  have nneg : ∀ z : Int, z32 z → 0 ≤ z → ¬ Int32.ofInt z < 0 ∧ (Int32.ofInt z).toNatClampNeg = z.toNat := fun z hz h0 => by
    refine ⟨?_, ?_⟩
    · rw [show (0 : Int32) = Int32.ofInt 0 from rfl, z32_lt hz (by unfold z32; omega)]
      omega
    · show (Int32.ofInt z).toInt.toNat = z.toNat
      rw [z32_ti hz]
  have hi1 := nneg sp (hst (zI sp) (by simp)) h1
  have hi2 := nneg dp (hst (zI dp) (by simp)) h2
  have hi3 := nneg cnt (hst (zI cnt) (by simp)) h3
  have he0 : (zWs G 143 h)[a0]? = some (G.1 + a0, .inl (G.2.2.2.1 (kd - 20), s0, .inl (fun i => Int32.ofInt (h a0 i)))) := by rw [zWs_at (z_n ha0), zN_arr ha0 (by omega), zD_i (by omega)]
  have he1 : (zWs G 143 h)[a1]? = some (G.1 + a1, .inl (G.2.2.2.1 (kd - 20), s1, .inl (fun i => Int32.ofInt (h a1 i)))) := by rw [zWs_at (z_n ha1), zN_arr ha1 (by omega), zD_i (by omega)]
  refine va_copyi (D := zGD G) (ws := zWs G 143 h) (tys := zTys G) (cl := zCL) C.1 C.2.1 (C.2.2.1.trans hl.1.symm) C.2.2.2.2.2.1 (C.2.2.2.2.2.2.2.1 _ hl') (C.2.2.2.2.2.2.2.1 _ zAC_n) (C.2.2.2.2.2.2.2.1 _ zAC_s) (C.2.2.2.2.2.2.2.1 _ zAC_i) C.2.2.2.2.2.2.2.2.1 hH.1 (zWs_D G 143 h) hS a0 a1 (kd - 20) (kd - 20) he0 he1 (zTys_at G (by omega)) (zTys_at G (by omega)) (by rcases hkd with rfl | rfl <;> rfl) hi1.1 hi2.1 hi3.1 (by rw [hi1.2, hi3.2]; omega) (by rw [hi2.2, hi3.2]; omega) (fun j hj => by
      rw [hi3.2] at hj
      rw [hi1.2]
      have := hH.2.1 a0 (sp.toNat + j) kd s0 (z_n ha0) ha0 (by omega)
      rcases hkd with rfl | rfl
      · rfl
      · have e : h a0 (sp.toNat + j) = 0 ∨ h a0 (sp.toNat + j) = 1 := by have h1 : 0 ≤ h a0 (sp.toNat + j) ∧ h a0 (sp.toNat + j) ≤ 1 := this; omega
        rcases e with e | e <;> rw [e] <;> rfl) (show 1 ≤ d by omega) (by rw [zSz_eq]; show zSz st + (7 + 11) ≤ 64 * d; omega) hdec (fun H1 locs1 hP1 hD1 hS1 => ?_)
  rw [hi1.2, hi2.2, hi3.2] at hP1
  rw [show (zWs G 143 h).set a1 (G.1 + a1, _) = zWs G 143 (zcp h a0 sp.toNat a1 dp.toNat cnt.toNat) by
    rw [← zWs_set (h := h) (h' := zcp h a0 sp.toNat a1 dp.toNat cnt.toNat) (a := a1) (fun a' h' => zcp_off h'), zN_arr ha1 (by omega), zD_i (by omega)]
    congr 6
    funext q
    simp only [va_cpy, zcp, true_and]
    split <;> rfl] at hP1
  exact kk G d mc ms p l e s m args below meth c H1 locs1 cells slots lr hk C hl (fun y hy => hst y (by simp [hy])) ⟨hP1, zcp_rg hH.2.1 ha0 ha1 (by omega) (by omega), fun h142 => zcp_wd (hH.2.2.1 h142) ha1 (fun i => by rcases hkd with rfl | rfl <;> rfl), zcp_sc hH.2.2.2 ha1⟩ hS1 hc1 hc2 hz
set_option maxHeartbeats 2000000 in
theorem zy_l {a0 a1 s0 s1 : Nat} {sp dp cnt : Int} (hd : zDC M pc (.invokestatic idx) 3 pc') (hl' : zAC M.1.cls idx) (ha0 : zSH[a0]? = some (21, s0)) (ha1 : zSH[a1]? = some (21, s1)) (h1 : 0 ≤ sp) (h2 : 0 ≤ dp) (h3 : 0 ≤ cnt) (h4 : sp + cnt ≤ s0) (h5 : dp + cnt ≤ s1) (hk1 : 1 ≤ k) (hsz : zSz st ≤ 8) (kk : zRW M k b pc' ls st 143 (zcp h a0 sp.toNat a1 dp.toNat cnt.toNat) Q) : zRW M k b pc ls (zI cnt :: zI dp :: zA a1 :: zI sp :: zA a0 :: st) 143 h Q := by
  intro G d mc ms p l e s m args below meth c H locs cells slots lr hk C hl hst hH hS hc1 hc2 hz
  obtain ⟨hdec, rfl⟩ := hd
  have nneg : ∀ z : Int, z32 z → 0 ≤ z → ¬ Int32.ofInt z < 0 ∧ (Int32.ofInt z).toNatClampNeg = z.toNat := fun z hz h0 => by
    refine ⟨?_, ?_⟩
    · rw [show (0 : Int32) = Int32.ofInt 0 from rfl, z32_lt hz (by unfold z32; omega)]
      omega
    · show (Int32.ofInt z).toInt.toNat = z.toNat
      rw [z32_ti hz]
  have hi1 := nneg sp (hst (zI sp) (by simp)) h1
  have hi2 := nneg dp (hst (zI dp) (by simp)) h2
  have hi3 := nneg cnt (hst (zI cnt) (by simp)) h3
  have he0 : (zWs G 143 h)[a0]? = some (G.1 + a0, .inl (G.2.2.2.1 (21 - 20), s0, .inr (.inl (fun i => Int64.ofInt (h a0 i))))) := by rw [zWs_at (z_n ha0), zN_arr ha0 (by omega), zD_l]
  have he1 : (zWs G 143 h)[a1]? = some (G.1 + a1, .inl (G.2.2.2.1 (21 - 20), s1, .inr (.inl (fun i => Int64.ofInt (h a1 i))))) := by rw [zWs_at (z_n ha1), zN_arr ha1 (by omega), zD_l]
  refine va_copyl (D := zGD G) (ws := zWs G 143 h) (tys := zTys G) (cl := zCL) C.1 C.2.1 (C.2.2.1.trans hl.1.symm) C.2.2.2.2.2.1 (C.2.2.2.2.2.2.2.1 _ hl') (C.2.2.2.2.2.2.2.1 _ zAC_n) (C.2.2.2.2.2.2.2.1 _ zAC_s) (C.2.2.2.2.2.2.2.1 _ zAC_i) C.2.2.2.2.2.2.2.2.1 hH.1 (zWs_D G 143 h) hS a0 a1 (21 - 20) (21 - 20) he0 he1 (zTys_at G (by omega)) (zTys_at G (by omega)) rfl hi1.1 hi2.1 hi3.1 (by rw [hi1.2, hi3.2]; omega) (by rw [hi2.2, hi3.2]; omega) (fun j hj => rfl) (show 1 ≤ d by omega) (by rw [zSz_eq]; show zSz st + (7 + 11) ≤ 64 * d; omega) hdec (fun H1 locs1 hP1 hD1 hS1 => ?_)
  rw [hi1.2, hi2.2, hi3.2] at hP1
  rw [show (zWs G 143 h).set a1 (G.1 + a1, _) = zWs G 143 (zcp h a0 sp.toNat a1 dp.toNat cnt.toNat) by
    rw [← zWs_set (h := h) (h' := zcp h a0 sp.toNat a1 dp.toNat cnt.toNat) (a := a1) (fun a' h' => zcp_off h'), zN_arr ha1 (by omega), zD_l]
    congr 7
    funext q
    simp only [va_cpy, zcp, true_and]
    split <;> rfl] at hP1
  exact kk G d mc ms p l e s m args below meth c H1 locs1 cells slots lr hk C hl (fun y hy => hst y (by simp [hy])) ⟨hP1, zcp_rg hH.2.1 ha0 ha1 (by omega) (by omega), fun h142 => zcp_wd (hH.2.2.1 h142) ha1 (fun i => by rfl), zcp_sc hH.2.2.2 ha1⟩ hS1 hc1 hc2 hz
end
