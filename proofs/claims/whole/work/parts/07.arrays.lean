-- rows of arrays
theorem z_idx {i : Int} {n : Nat} (hr : z32 i) (h0 : 0 ≤ i) (h1 : i < n) : vp_in (Int32.ofInt i) n ∧ (Int32.ofInt i).toNatClampNeg = i.toNat := by
  have e : (Int32.ofInt i).toNatClampNeg = i.toNat := by
    show (Int32.ofInt i).toInt.toNat = i.toNat
    rw [z32_ti hr]
  refine ⟨?_, e⟩
  rintro (h | h)
  · rw [show (0 : Int32) = Int32.ofInt 0 from rfl, z32_lt hr (by unfold z32; omega)] at h
    omega
  · rw [e] at h
    omega
theorem zTys_at (G : zG) {j : Nat} (hj : j < 7) : (zTys G)[j]? = some (G.2.2.2.1 j, zAT (20 + j)) := by
  simp [zTys, hj]
theorem zD_i {G : zG} {kd : Nat} {f : Nat → Int} (h : kd = 20 ∨ kd = 22 ∨ kd = 23) : zD G kd f = .inl (fun i => Int32.ofInt (f i)) := by
  rcases h with rfl | rfl | rfl <;> rfl
theorem zD_l {G : zG} {f : Nat → Int} : zD G 21 f = .inr (.inl (fun i => Int64.ofInt (f i))) := rfl
theorem zsh_lt {a : Nat} {q : Nat × Nat} (h : zSH[a]? = some q) : a < 142 := (List.getElem?_eq_some_iff.mp h).1
section
variable {M : zM} {k : Nat} {b : Nat × Nat} {pc pc' a sz : Nat} {ls st : List zV} {n : Nat} {h : zHp} {Q : Option zV → Nat → zHp → Prop} {i v : Int}
set_option maxHeartbeats 1000000 in
theorem z_iald (hd : zDC M pc .iaload 1 pc') (ha : zSH[a]? = some (20, sz)) (hn : a < min n 142) (h0 : 0 ≤ i) (h1 : i < sz) (kk : zRW M k b pc' ls (zI (h a i.toNat) :: st) n h Q) : zRW M k b pc ls (zI i :: zA a :: st) n h Q := by
  intro G d mc ms p l e s m args below meth c H locs cells slots lr hk C hl hst hH hS hc1 hc2 hz
  obtain ⟨hdec, rfl⟩ := hd
  obtain ⟨hi1, hi2⟩ := z_idx (hst _ List.mem_cons_self) h0 h1
  have he : (zWs G n h)[a]? = some (G.1 + a, .inl (G.2.2.2.1 0, sz, .inl (fun i => Int32.ofInt (h a i)))) := by rw [zWs_at hn, zN_arr ha (by decide), zD_i (Or.inl rfl)]
  refine va_iald (D := zGD G) (ws := zWs G n h) (tys := zTys G) (cl := zCL) C.1 C.2.1 C.2.2.2.2.2.2.2.2.1 hH.1 a 0 he (zTys_at G (by decide)) hi1 hdec ?_
  rw [hi2]
  exact kk G d mc ms p l e s m args below meth c H locs cells slots lr hk C hl (fun y hy => by
    rcases List.mem_cons.mp hy with rfl | hy
    · exact hH.2.1 a i.toNat 20 sz hn ha (by omega)
    · exact hst y (List.mem_cons_of_mem _ (List.mem_cons_of_mem _ hy))) hH hS hc1 hc2 hz
set_option maxHeartbeats 1000000 in
theorem z_bald (hd : zDC M pc .baload 1 pc') (ha : zSH[a]? = some (22, sz)) (hn : a < min n 142) (h0 : 0 ≤ i) (h1 : i < sz) (kk : zRW M k b pc' ls (zI (h a i.toNat) :: st) n h Q) : zRW M k b pc ls (zI i :: zA a :: st) n h Q := by
  intro G d mc ms p l e s m args below meth c H locs cells slots lr hk C hl hst hH hS hc1 hc2 hz
  obtain ⟨hdec, rfl⟩ := hd
  obtain ⟨hi1, hi2⟩ := z_idx (hst _ List.mem_cons_self) h0 h1
  have he : (zWs G n h)[a]? = some (G.1 + a, .inl (G.2.2.2.1 2, sz, .inl (fun i => Int32.ofInt (h a i)))) := by rw [zWs_at hn, zN_arr ha (by decide), zD_i (Or.inr (Or.inl rfl))]
  refine va_bald (D := zGD G) (ws := zWs G n h) (tys := zTys G) (cl := zCL) C.1 C.2.1 C.2.2.2.2.2.2.2.2.1 hH.1 a 2 he (zTys_at G (by decide)) hi1 hdec ?_
  rw [hi2]
  exact kk G d mc ms p l e s m args below meth c H locs cells slots lr hk C hl (fun y hy => by
    rcases List.mem_cons.mp hy with rfl | hy
    · have := hH.2.1 a i.toNat 22 sz hn ha (by omega)
      obtain ⟨q1, q2⟩ := this
      show z32 (h a i.toNat)
      unfold z32
      omega
    · exact hst y (List.mem_cons_of_mem _ (List.mem_cons_of_mem _ hy))) hH hS hc1 hc2 hz
set_option maxHeartbeats 1000000 in
theorem z_zald (hd : zDC M pc .baload 1 pc') (ha : zSH[a]? = some (23, sz)) (hn : a < min n 142) (h0 : 0 ≤ i) (h1 : i < sz) (kk : zRW M k b pc' ls (zI (h a i.toNat) :: st) n h Q) : zRW M k b pc ls (zI i :: zA a :: st) n h Q := by
  intro G d mc ms p l e s m args below meth c H locs cells slots lr hk C hl hst hH hS hc1 hc2 hz
  obtain ⟨hdec, rfl⟩ := hd
  obtain ⟨hi1, hi2⟩ := z_idx (hst _ List.mem_cons_self) h0 h1
  have he : (zWs G n h)[a]? = some (G.1 + a, .inl (G.2.2.2.1 3, sz, .inl (fun i => Int32.ofInt (h a i)))) := by rw [zWs_at hn, zN_arr ha (by decide), zD_i (Or.inr (Or.inr rfl))]
  refine va_zald (D := zGD G) (ws := zWs G n h) (tys := zTys G) (cl := zCL) C.1 C.2.1 C.2.2.2.2.2.2.2.2.1 hH.1 a 3 he (zTys_at G (by decide)) hi1 hdec ?_
  rw [hi2]
  exact kk G d mc ms p l e s m args below meth c H locs cells slots lr hk C hl (fun y hy => by
    rcases List.mem_cons.mp hy with rfl | hy
    · have := hH.2.1 a i.toNat 23 sz hn ha (by omega)
      obtain ⟨q1, q2⟩ := this
      show z32 (h a i.toNat)
      unfold z32
      omega
    · exact hst y (List.mem_cons_of_mem _ (List.mem_cons_of_mem _ hy))) hH hS hc1 hc2 hz
set_option maxHeartbeats 1000000 in
theorem z_lald (hd : zDC M pc .laload 1 pc') (ha : zSH[a]? = some (21, sz)) (hn : a < min n 142) (h0 : 0 ≤ i) (h1 : i < sz) (kk : zRW M k b pc' ls (zJ (h a i.toNat) :: st) n h Q) : zRW M k b pc ls (zI i :: zA a :: st) n h Q := by
  intro G d mc ms p l e s m args below meth c H locs cells slots lr hk C hl hst hH hS hc1 hc2 hz
  obtain ⟨hdec, rfl⟩ := hd
  obtain ⟨hi1, hi2⟩ := z_idx (hst _ List.mem_cons_self) h0 h1
  have he : (zWs G n h)[a]? = some (G.1 + a, .inl (G.2.2.2.1 1, sz, .inr (.inl (fun i => Int64.ofInt (h a i))))) := by rw [zWs_at hn, zN_arr ha (by decide), zD_l]
  refine va_lald (D := zGD G) (ws := zWs G n h) (tys := zTys G) (cl := zCL) C.1 C.2.1 C.2.2.2.2.2.2.2.2.1 hH.1 a 1 he (zTys_at G (by decide)) hi1 hdec ?_
  rw [hi2]
  exact kk G d mc ms p l e s m args below meth c H locs cells slots lr hk C hl (fun y hy => by
    rcases List.mem_cons.mp hy with rfl | hy
    · exact hH.2.1 a i.toNat 21 sz hn ha (by omega)
    · exact hst y (List.mem_cons_of_mem _ (List.mem_cons_of_mem _ hy))) hH hS hc1 hc2 hz
set_option maxHeartbeats 1000000 in
theorem z_aald {kd : Nat} (hd : zDC M pc .aaload 1 pc') (ha : zSH[a]? = some (kd, sz)) (hkd : kd = 24 ∨ kd = 25 ∨ kd = 26) (hn : 142 < n) (h0 : 0 ≤ i) (h1 : i < sz) (kk : zRW M k b pc' ls (zA (zRTa a i.toNat) :: st) n h Q) : zRW M k b pc ls (zI i :: zA a :: st) n h Q := by
  intro G d mc ms p l e s m args below meth c H locs cells slots lr hk C hl hst hH hS hc1 hc2 hz
  obtain ⟨hdec, rfl⟩ := hd
  obtain ⟨hi1, hi2⟩ := z_idx (hst _ List.mem_cons_self) h0 h1
  have hn' : a < min n 142 := by have := zsh_lt ha; omega
  have he : (zWs G n h)[a]? = some (G.1 + a, .inl (G.2.2.2.1 (kd - 20), sz, .inr (.inr (.inr (.inr (fun i => if h a i < 0 then none else some (G.1 + (h a i).toNat))))))) := by
    rw [zWs_at hn', zN_arr ha (by omega)]
    rcases hkd with rfl | rfl | rfl <;> rfl
  have hw := hH.2.2.1 hn a i.toNat kd sz ha (by omega) (by rcases hkd with rfl | rfl | rfl <;> rfl)
  obtain ⟨Cn, hC⟩ : ∃ Cn, zAT (20 + (kd - 20)) = .object Cn := by rcases hkd with rfl | rfl | rfl <;> exact ⟨_, rfl⟩
  refine va_aldq (D := zGD G) (ws := zWs G n h) (tys := zTys G) (cl := zCL) C.1 C.2.1 C.2.2.2.2.2.2.2.2.1 hH.1 a (kd - 20) he (by rw [zTys_at G (by omega), hC]) hi1 hdec ?_
  rw [hi2]
  have e1 : va_rf (if h a i.toNat < 0 then none else some (G.1 + (h a i.toNat).toNat)) = zE G (zA (zRTa a i.toNat)) := by
    rw [hw]
    rfl
  rw [e1]
  exact kk G d mc ms p l e s m args below meth c H locs cells slots lr hk C hl (fun y hy => by
    rcases List.mem_cons.mp hy with rfl | hy
    · exact trivial
    · exact hst y (List.mem_cons_of_mem _ (List.mem_cons_of_mem _ hy))) hH hS hc1 hc2 hz
set_option maxHeartbeats 1000000 in
theorem z_iast (hd : zDC M pc .iastore 1 pc') (ha : zSH[a]? = some (20, sz)) (hn : a < min n 142) (h0 : 0 ≤ i) (h1 : i < sz) (kk : zRW M k b pc' ls st n (zup h a i.toNat v) Q) : zRW M k b pc ls (zI v :: zI i :: zA a :: st) n h Q := by
  intro G d mc ms p l e s m args below meth c H locs cells slots lr hk C hl hst hH hS hc1 hc2 hz
  obtain ⟨hdec, rfl⟩ := hd
  obtain ⟨hi1, hi2⟩ := z_idx (hst (zI i) (by simp)) h0 h1
  have he : (zWs G n h)[a]? = some (G.1 + a, .inl (G.2.2.2.1 0, sz, .inl (fun i => Int32.ofInt (h a i)))) := by rw [zWs_at hn, zN_arr ha (by decide), zD_i (Or.inl rfl)]
  refine va_iast (D := zGD G) (ws := zWs G n h) (tys := zTys G) (cl := zCL) C.1 C.2.1 C.2.2.2.2.2.2.2.2.1 hH.1 (zWs_D G n h) hS a 0 he (zTys_at G (by decide)) hi1 hdec (fun H1 locs1 hP1 hD1 hS1 => ?_)
  have hset : (zWs G n h).set a (G.1 + a, .inl (G.2.2.2.1 0, sz, .inl (upd (fun i => Int32.ofInt (h a i)) (Int32.ofInt i).toNatClampNeg (Int32.ofInt v)))) = zWs G n (zup h a i.toNat v) := by
    rw [← zWs_set (h := h) (h' := zup h a i.toNat v) (a := a) (fun a' h' => zup_off h'), zN_arr ha (by decide), zup_on, zD_i (Or.inl rfl), hi2]
    congr 6
    funext q
    by_cases hq : q = i.toNat <;> simp [upd, hq]
  rw [hset] at hP1
  exact kk G d mc ms p l e s m args below meth c H1 locs1 cells slots lr hk C hl (fun y hy => hst y (by simp [hy])) ⟨hP1, zRg_up hH.2.1 ha (hst (zI v) (by simp)), fun h142 => zWd_up (hH.2.2.1 h142) ha rfl, zSc_up hH.2.2.2 ha⟩ hS1 hc1 hc2 hz
set_option maxHeartbeats 1000000 in
theorem z_last (hd : zDC M pc .lastore 1 pc') (ha : zSH[a]? = some (21, sz)) (hn : a < min n 142) (h0 : 0 ≤ i) (h1 : i < sz) (kk : zRW M k b pc' ls st n (zup h a i.toNat v) Q) : zRW M k b pc ls (zJ v :: zI i :: zA a :: st) n h Q := by
  intro G d mc ms p l e s m args below meth c H locs cells slots lr hk C hl hst hH hS hc1 hc2 hz
  obtain ⟨hdec, rfl⟩ := hd
  obtain ⟨hi1, hi2⟩ := z_idx (hst (zI i) (by simp)) h0 h1
  have he : (zWs G n h)[a]? = some (G.1 + a, .inl (G.2.2.2.1 1, sz, .inr (.inl (fun i => Int64.ofInt (h a i))))) := by rw [zWs_at hn, zN_arr ha (by decide), zD_l]
  refine va_last (D := zGD G) (ws := zWs G n h) (tys := zTys G) (cl := zCL) C.1 C.2.1 C.2.2.2.2.2.2.2.2.1 hH.1 (zWs_D G n h) hS a 1 he (zTys_at G (by decide)) hi1 hdec (fun H1 locs1 hP1 hD1 hS1 => ?_)
  rw [show (zWs G n h).set a (G.1 + a, _) = zWs G n (zup h a i.toNat v) by
    rw [← zWs_set (h := h) (h' := zup h a i.toNat v) (a := a) (fun a' h' => zup_off h'), zN_arr ha (by decide), zup_on, zD_l, hi2]
    congr 7
    funext q
    by_cases hq : q = i.toNat <;> simp [vp_updL, hq]] at hP1
  exact kk G d mc ms p l e s m args below meth c H1 locs1 cells slots lr hk C hl (fun y hy => hst y (by simp [hy])) ⟨hP1, zRg_up hH.2.1 ha (hst (zJ v) (by simp)), fun h142 => zWd_up (hH.2.2.1 h142) ha rfl, zSc_up hH.2.2.2 ha⟩ hS1 hc1 hc2 hz
theorem zi2b_of (v : Int) : Int32.ofInt (zi2b v) = (Int32.ofInt v).toInt8.toInt32 := by rw [zi2b, Int32.ofInt_toInt]
theorem zi2b_r (v : Int) : -128 ≤ zi2b v ∧ zi2b v ≤ 127 := by
  have h1 := (Int32.ofInt v).toInt8.toInt_lt
  have h2 := (Int32.ofInt v).toInt8.le_toInt
  unfold zi2b
  rw [Int8.toInt_toInt32]
  omega
set_option maxHeartbeats 1000000 in
theorem z_bast (hd : zDC M pc .bastore 1 pc') (ha : zSH[a]? = some (22, sz)) (hn : a < min n 142) (h0 : 0 ≤ i) (h1 : i < sz) (kk : zRW M k b pc' ls st n (zup h a i.toNat (zi2b v)) Q) : zRW M k b pc ls (zI v :: zI i :: zA a :: st) n h Q := by
  intro G d mc ms p l e s m args below meth c H locs cells slots lr hk C hl hst hH hS hc1 hc2 hz
  obtain ⟨hdec, rfl⟩ := hd
  obtain ⟨hi1, hi2⟩ := z_idx (hst (zI i) (by simp)) h0 h1
  have he : (zWs G n h)[a]? = some (G.1 + a, .inl (G.2.2.2.1 2, sz, .inl (fun i => Int32.ofInt (h a i)))) := by rw [zWs_at hn, zN_arr ha (by decide), zD_i (Or.inr (Or.inl rfl))]
  refine va_bast (D := zGD G) (ws := zWs G n h) (tys := zTys G) (cl := zCL) C.1 C.2.1 C.2.2.2.2.2.2.2.2.1 hH.1 (zWs_D G n h) hS a 2 he (zTys_at G (by decide)) hi1 hdec (fun H1 locs1 hP1 hD1 hS1 => ?_)
  have hset : (zWs G n h).set a (G.1 + a, .inl (G.2.2.2.1 2, sz, .inl (upd (fun i => Int32.ofInt (h a i)) (Int32.ofInt i).toNatClampNeg (vp_nar .byte (Int32.ofInt v))))) = zWs G n (zup h a i.toNat (zi2b v)) := by
    rw [← zWs_set (h := h) (h' := zup h a i.toNat (zi2b v)) (a := a) (fun a' h' => zup_off h'), zN_arr ha (by decide), zup_on, zD_i (Or.inr (Or.inl rfl)), hi2, vp_nar_byte, ← zi2b_of]
    congr 6
    funext q
    by_cases hq : q = i.toNat <;> simp [upd, hq]
  rw [hset] at hP1
  exact kk G d mc ms p l e s m args below meth c H1 locs1 cells slots lr hk C hl (fun y hy => hst y (by simp [hy])) ⟨hP1, zRg_up hH.2.1 ha (zi2b_r v), fun h142 => zWd_up (hH.2.2.1 h142) ha rfl, zSc_up hH.2.2.2 ha⟩ hS1 hc1 hc2 hz
set_option maxHeartbeats 1000000 in
theorem z_zast (hd : zDC M pc .bastore 1 pc') (ha : zSH[a]? = some (23, sz)) (hn : a < min n 142) (h0 : 0 ≤ i) (h1 : i < sz) (hv : v = 0 ∨ v = 1) (kk : zRW M k b pc' ls st n (zup h a i.toNat v) Q) : zRW M k b pc ls (zI v :: zI i :: zA a :: st) n h Q := by
  intro G d mc ms p l e s m args below meth c H locs cells slots lr hk C hl hst hH hS hc1 hc2 hz
  obtain ⟨hdec, rfl⟩ := hd
  obtain ⟨hi1, hi2⟩ := z_idx (hst (zI i) (by simp)) h0 h1
  have he : (zWs G n h)[a]? = some (G.1 + a, .inl (G.2.2.2.1 3, sz, .inl (fun i => Int32.ofInt (h a i)))) := by rw [zWs_at hn, zN_arr ha (by decide), zD_i (Or.inr (Or.inr rfl))]
  refine va_zast (D := zGD G) (ws := zWs G n h) (tys := zTys G) (cl := zCL) C.1 C.2.1 C.2.2.2.2.2.2.2.2.1 hH.1 (zWs_D G n h) hS a 3 he (zTys_at G (by decide)) hi1 hdec (fun H1 locs1 hP1 hD1 hS1 => ?_)
  have hnar : vp_nar .boolean (Int32.ofInt v) = Int32.ofInt v := by rcases hv with rfl | rfl <;> rfl
  have hset : (zWs G n h).set a (G.1 + a, .inl (G.2.2.2.1 3, sz, .inl (upd (fun i => Int32.ofInt (h a i)) (Int32.ofInt i).toNatClampNeg (vp_nar .boolean (Int32.ofInt v))))) = zWs G n (zup h a i.toNat v) := by
    rw [← zWs_set (h := h) (h' := zup h a i.toNat v) (a := a) (fun a' h' => zup_off h'), zN_arr ha (by decide), zup_on, zD_i (Or.inr (Or.inr rfl)), hi2, hnar]
    congr 6
    funext q
    by_cases hq : q = i.toNat <;> simp [upd, hq]
  rw [hset] at hP1
  exact kk G d mc ms p l e s m args below meth c H1 locs1 cells slots lr hk C hl (fun y hy => hst y (by simp [hy])) ⟨hP1, zRg_up hH.2.1 ha (by show 0 ≤ v ∧ v ≤ 1; omega), fun h142 => zWd_up (hH.2.2.1 h142) ha rfl, zSc_up hH.2.2.2 ha⟩ hS1 hc1 hc2 hz
def zcp (h : zHp) (src sp dst dp cnt : Nat) : zHp := fun a i => if a = dst ∧ dp ≤ i ∧ i < dp + cnt then h src (sp + (i - dp)) else h a i
theorem zcp_off {h : zHp} {src sp dst dp cnt a : Nat} (hn : ¬ a = dst) : zcp h src sp dst dp cnt a = h a := by funext j; simp [zcp, hn]
end
