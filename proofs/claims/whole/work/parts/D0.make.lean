-- rows for what constructors do: new objects and arrays, references put, constructors called
def zdf (a i : Nat) : Int := match zSH[a]? with
  | some (kd, _) => if zIsR (zTA kd i) = true then -1 else 0
  | none => 0
theorem zdf_e {a kd sz : Nat} (h : zSH[a]? = some (kd, sz)) (i : Nat) : zdf a i = if zIsR (zTA kd i) = true then -1 else 0 := by unfold zdf; rw [h]
def z_tyok (ty : FieldType) : Bool := match ty with
  | .float => false
  | .double => false
  | .char => false
  | .short => false
  | _ => true
theorem z_def (G : zG) (ty : FieldType) (h : z_tyok ty = true) : zEF G ty (if zIsR ty = true then -1 else 0) = defaultValue ty ∧ zRF ty (if zIsR ty = true then -1 else 0) := by
  cases ty <;> first | (cases h; done) | exact ⟨rfl, trivial⟩ | exact ⟨rfl, by decide⟩ | exact ⟨rfl, by show _ ∧ _; decide⟩
theorem z_tyAll : (List.range 13).all (fun ci => match zCL[ci]? with | some q => (List.range q.2.2).all (fun k => z_tyok (zTY ci k)) | none => true) = true := by decide +kernel
theorem z_tyc {ci : Nat} {q : vw_C} (hc : zCL[ci]? = some q) {k : Nat} (hk : k < q.2.2) : z_tyok (zTY ci k) = true := by
  have h := List.all_eq_true.mp z_tyAll ci (List.mem_range.mpr (z_ci hc))
  rw [hc] at h
  exact List.all_eq_true.mp h k (List.mem_range.mpr hk)
theorem zWs_s {G : zG} {n : Nat} {h : zHp} (hn : n < 142) : zWs G (n + 1) h = zWs G n h ++ [(G.1 + n, zN G n (h n))] := by
  unfold zWs
  rw [show min (n + 1) 142 = n + 1 by omega, show min n 142 = n by omega, List.range_succ, List.map_append]
  rfl
theorem z_addr {G : zG} {n q : Nat} {h : zHp} {e : va_E} {H1 : Heap} (hn : n < 142) (hP : va_P (zGD G) zCL (zWs G n h ++ [(q, e)]) H1) (hD : va_D (zAf G) (zWs G n h ++ [(q, e)])) (hz : H1.size ≤ G.1 + n + 1) : q = G.1 + n := by
  have hl : (zWs G n h).length = n := by rw [zWs_len]; omega
  have hq : (zWs G n h ++ [(q, e)])[n]? = some (q, e) := by rw [List.getElem?_append_right (by omega), hl, Nat.sub_self]; rfl
  have h1 : q < H1.size := (hP n _ hq).lt
  have h2 : G.1 ≤ q := hD.2 n _ hq
  by_cases z : q = G.1 + n
  · exact z
  · have ha : (zWs G n h ++ [(q, e)])[q - G.1]? = some (G.1 + (q - G.1), zN G (q - G.1) (h (q - G.1))) := by rw [List.getElem?_append_left (by omega)]; exact zWs_at (by omega)
    have := hD.1 _ _ _ _ ha hq (by show G.1 + (q - G.1) = q; omega)
    omega
theorem zRg_s {n : Nat} {h : zHp} {kd sz : Nat} (hr : zRg n h) (hn : n < 142) (hs : zSH[n]? = some (kd, sz)) (hz : ∀ i : Nat, i < sz → zRF (zTA kd i) (h n i)) : zRg (n + 1) h := by
  intro a i kd' sz' ha hs' hi
  by_cases z : a = n
  · subst z
    rw [hs] at hs'
    cases hs'
    exact hz i hi
  · exact hr a i kd' sz' (by omega) hs' hi
section
variable {M N : zM} {k kc : Nat} {b1 b2 : Nat} {b bc : Nat × Nat} {pc pc' idx ci na a sz : Nat} {ls st as : List zV} {n : Nat} {h : zHp} {Q Q' : Option zV → Nat → zHp → Prop} {i v : Int}
set_option maxHeartbeats 1000000 in
theorem z_newc {C : String} {T : u_T} {F : Nat} (hd : zDC M pc (.new idx) 3 pc') (hl : Cond.classLink M.1.cls idx C ∈ zTb) (hi : Cond.instantiable C F ∈ zTb) (h0 : Cond.initialized C ∈ zTb) (hc : zCL[ci]? = some (C, T, F)) (hs : zSH[n]? = some (ci, F)) (hn : n < 142) (hdef : h n = zdf n) (kk : zRW M k (b1, b2) pc' ls (zA n :: st) (n + 1) h Q) : zRW M k (b1 + 1, b2 + F) pc ls st n h Q := by
  intro G d mc ms p l e s m args below meth c H locs cells slots lr hk C hlr hst hH hS hc1 hc2 hz
  obtain ⟨hdec, rfl⟩ := hd
  obtain ⟨hin, hty, hnm, hsz⟩ := z_cf ci _ hc
  have hci := z_ci hc
  have hw := C.2.2.2.2.2.2.2.1
  have hK := C.2.2.2.2.2.2.2.2
  have hc1' : cells + (b1 + 1) ≤ mc := hc1
  have hc2' : slots + (b2 + F) ≤ ms := hc2
  have hdk : ∀ j : Nat, j < F → zEF G (zTY ci j) (h n j) = defaultValue (zTY ci j) ∧ zRF (zTY ci j) (h n j) := fun j hj => by
    rw [hdef, zdf_e hs, zTA, if_pos hci]
    exact z_def G _ (z_tyc hc hj)
  refine va_new (D := zGD G) (tys := zTys G) (cl := zCL) (ws := zWs G n h) C.1 C.2.1 hw hin (zTY ci) hty C.2.2.2.2.2.1 (hw _ hl) (hw _ hi) (hw _ h0) hK.1 hH.1 (zWs_D G n h) hS (fun q hq => Nat.le_trans hK.2.1 hq) hc (fs := (List.range F).map (fun k => zEF G (zTY ci k) (h n k))) (fun j hj => ?_) (show cells + 1 ≤ mc by omega) (show slots + F ≤ ms by omega) hdec fun q H1 hP1 hD1 hS1 => ?_
  · rw [← (hdk j hj).1]
    simp [vp_V, hj]
  · refine z_size fun hup => ?_
    have hq := z_addr hn hP1 hD1 (by have := hz (by omega); omega)
    subst hq
    have hN : zN G n (h n) = .inr (ci, (List.range F).map (fun k => zEF G (zTY ci k) (h n k))) := zN_obj hs hci (h n)
    rw [← hN, ← zWs_s hn] at hP1
    exact kk G d mc ms p l e s m args below meth c H1 locs (cells + 1) (slots + F) lr hk C hlr (fun x hx => by
      rcases List.mem_cons.mp hx with rfl | hx
      · trivial
      · exact hst x hx) ⟨hP1, zRg_s hH.2.1 hn hs (fun j hj => by rw [zTA, if_pos hci]; exact (hdk j hj).2), fun h142 => by omega, hH.2.2.2⟩ hS1 (show cells + 1 + b1 ≤ mc by omega) (show slots + F + b2 ≤ ms by omega) (fun h142 => by have := hz (by omega); omega)
set_option maxHeartbeats 1000000 in
theorem z_newp {at0 : ArrayType} {kd : Nat} (hd : zDC M pc (.newarray at0) 2 pc') (hw0 : Cond.arrayClass (newarray.typeOf at0) ∈ zTb) (hty : newarray.typeOf at0 = zAT kd) (hkd : kd = 20 ∨ kd = 21 ∨ kd = 22 ∨ kd = 23) (hs : zSH[n]? = some (kd, sz)) (hn : n < 142) (hsz : sz < 2000) (hdef : h n = zdf n) (kk : zRW M k (b1, b2) pc' ls (zA n :: st) (n + 1) h Q) : zRW M k (b1 + 1, b2 + sz) pc ls (zI (sz : Int) :: st) n h Q := by
  intro G d mc ms p l e s m args below meth c H locs cells slots lr hk C hlr hst hH hS hc1 hc2 hz
  obtain ⟨hdec, rfl⟩ := hd
  have hw := C.2.2.2.2.2.2.2.1
  have hK := C.2.2.2.2.2.2.2.2
  have hc1' : cells + (b1 + 1) ≤ mc := hc1
  have hc2' : slots + (b2 + sz) ≤ ms := hc2
  have hz0 : h n = fun _ => 0 := by
    rw [hdef]
    funext j
    have e9 : zTA kd j = zAT kd := if_neg (by omega)
    rw [zdf_e hs, e9]
    rcases hkd with rfl | rfl | rfl | rfl <;> rfl
  have hcl : ∀ cA : ClassId, vp_cell cA (sz, zD G kd (h n)) = arrV cA sz (fun _ => defaultValue (zAT kd)) := fun cA => by
    rw [hz0]
    rcases hkd with rfl | rfl | rfl | rfl <;> rfl
  have hi := z_idx (i := (sz : Int)) (n := 2000) ⟨by omega, by omega⟩ (by omega) (by omega)
  have hcb : sz * componentBytes (zAT kd) ≤ 536870912 := by
    rcases hkd with rfl | rfl | rfl | rfl
    · show sz * 4 ≤ _; omega
    · show sz * 8 ≤ _; omega
    · show sz * 1 ≤ _; omega
    · show sz * 1 ≤ _; omega
  refine va_newa (D := zGD G) (tys := zTys G) (cl := zCL) (ws := zWs G n h) (a0 := (sz, zD G kd (h n))) C.1 C.2.1 (hw _ hw0) hty hK.1 hH.1 (zWs_D G n h) hS (fun q hq => Nat.le_trans hK.2.1 hq) hcl (fun y => hi.1 (Or.inl y)) (by rw [hi.2]; rfl) hcb (show cells + 1 ≤ mc by omega) (show slots + sz ≤ ms by omega) hdec fun q cA H1 hK1 hP1 hD1 hS1 => ?_
  refine z_size fun hup => ?_
  have hq := z_addr hn hP1 hD1 (by have := hz (by omega); omega)
  subst hq
  have hA : cA = G.2.2.2.1 (kd - 20) := by
    have r1 := (hK1.2 7 (cA, zAT kd) (by rw [List.getElem?_append_right (by simp [zTys])]; simp [zTys])).2
    have r2 := (hK.1.2 (kd - 20) (G.2.2.2.1 (kd - 20), zAT kd) (by rw [zTys_at G (by omega), show 20 + (kd - 20) = kd by omega])).2
    rcases hkd with rfl | rfl | rfl | rfl <;> exact Option.some.inj (r1.symm.trans r2)
  subst hA
  have hN : zN G n (h n) = .inl (G.2.2.2.1 (kd - 20), sz, zD G kd (h n)) := zN_arr hs (by omega) (h n)
  rw [← hN, ← zWs_s hn] at hP1
  exact kk G d mc ms p l e s m args below meth c H1 locs (cells + 1) (slots + sz) lr hk C hlr (fun x hx => by
    rcases List.mem_cons.mp hx with rfl | hx
    · trivial
    · exact hst x (List.mem_cons_of_mem _ hx)) ⟨hP1, zRg_s hH.2.1 hn hs (fun j hj => by
      rw [hz0, zTA, if_neg (by omega)]
      rcases hkd with rfl | rfl | rfl | rfl
      · exact (show z32 0 from ⟨by decide, by decide⟩)
      · exact (show z64 0 from ⟨by decide, by decide⟩)
      · show (_ : Int) ≤ 0 ∧ (0 : Int) ≤ _; decide
      · show (0 : Int) ≤ 0 ∧ (0 : Int) ≤ 1; decide), fun h142 => by omega, hH.2.2.2⟩ hS1 (show cells + 1 + b1 ≤ mc by omega) (show slots + sz + b2 ≤ ms by omega) (fun h142 => by have := hz (by omega); omega)
set_option maxHeartbeats 1000000 in
theorem z_newq {C0 : String} {kd : Nat} (hd : zDC M pc (.anewarray idx) 3 pc') (hl : Cond.classLink M.1.cls idx C0 ∈ zTb) (hao : C0 ∈ zAO) (hty : zAT kd = .object C0) (hkd : kd = 24 ∨ kd = 25 ∨ kd = 26) (hs : zSH[n]? = some (kd, sz)) (hn : n < 142) (hsz : sz < 2000) (hdef : h n = zdf n) (kk : zRW M k (b1, b2) pc' ls (zA n :: st) (n + 1) h Q) : zRW M k (b1 + 1, b2 + sz) pc ls (zI (sz : Int) :: st) n h Q := by
  intro G d mc ms p l e s m args below meth c H locs cells slots lr hk C hlr hst hH hS hc1 hc2 hz
  obtain ⟨hdec, rfl⟩ := hd
  have hw := C.2.2.2.2.2.2.2.1
  have hK := C.2.2.2.2.2.2.2.2
  have hc1' : cells + (b1 + 1) ≤ mc := hc1
  have hc2' : slots + (b2 + sz) ≤ ms := hc2
  have hz0 : h n = fun _ => -1 := by
    rw [hdef]
    funext j
    have e9 : zTA kd j = zAT kd := if_neg (by omega)
    rw [zdf_e hs, e9, hty]
    rfl
  have hi := z_idx (i := (sz : Int)) (n := 2000) ⟨by omega, by omega⟩ (by omega) (by omega)
  have hzD : zD G kd (h n) = .inr (.inr (.inr (.inr (fun _ => none)))) := by
    rw [hz0]
    rcases hkd with rfl | rfl | rfl <;> rfl
  refine va_newq (D := zGD G) (tys := zTys G) (cl := zCL) (ws := zWs G n h) C.1 C.2.1 C.2.2.2.2.2.1 (hw _ hl) (hK.2.2.2.2.2.2.2.1 _ hao) hK.1 hH.1 (zWs_D G n h) hS (fun q hq => Nat.le_trans hK.2.1 hq) (fun y => hi.1 (Or.inl y)) (N' := sz) (by rw [hi.2]; rfl) (by omega) (show cells + 1 ≤ mc by omega) (show slots + sz ≤ ms by omega) hdec fun q cA H1 hK1 hP1 hD1 hS1 => ?_
  refine z_size fun hup => ?_
  have hq := z_addr hn hP1 hD1 (by have := hz (by omega); omega)
  subst hq
  have hA : cA = G.2.2.2.1 (kd - 20) := by
    have r1 := (hK1.2 7 (cA, .object C0) (by rw [List.getElem?_append_right (by simp [zTys])]; simp [zTys])).2
    have r2 := (hK.1.2 (kd - 20) (G.2.2.2.1 (kd - 20), zAT kd) (by rw [zTys_at G (by omega), show 20 + (kd - 20) = kd by omega])).2
    rw [hty] at r2
    obtain ⟨_, _, _, _, _, f1⟩ := r1
    obtain ⟨_, _, _, _, _, f2⟩ := r2
    exact Option.some.inj (f1.symm.trans f2)
  subst hA
  have hN : zN G n (h n) = .inl (G.2.2.2.1 (kd - 20), sz, .inr (.inr (.inr (.inr (fun _ => none))))) := by rw [zN_arr hs (by omega) (h n), hzD]
  rw [← hN, ← zWs_s hn] at hP1
  exact kk G d mc ms p l e s m args below meth c H1 locs (cells + 1) (slots + sz) lr hk C hlr (fun x hx => by
    rcases List.mem_cons.mp hx with rfl | hx
    · trivial
    · exact hst x (List.mem_cons_of_mem _ hx)) ⟨hP1, zRg_s hH.2.1 hn hs (fun j hj => by
      rw [zTA, if_neg (by omega), hty]
      trivial), fun h142 => by omega, hH.2.2.2⟩ hS1 (show cells + 1 + b1 ≤ mc by omega) (show slots + sz + b2 ≤ ms by omega) (fun h142 => by have := hz (by omega); omega)
set_option maxHeartbeats 1000000 in
theorem z_aasr {kd ct t szt j : Nat} {q : vw_C} (hd : zDC M pc .aastore 1 pc') (ha : zSH[a]? = some (kd, sz)) (hkd : kd = 24 ∨ kd = 25 ∨ kd = 26) (hn : a < n) (hn2 : n ≤ 142) (ht : zSH[t]? = some (ct, szt)) (hct : zCL[ct]? = some q) (hty : zAT kd = .object q.1) (htn : t < n) (hj : j < sz) (hsz : sz < 2000) (kk : zRW M k b pc' ls st n (zup h a j (t : Int)) Q) : zRW M k b pc ls (zA t :: zI (j : Int) :: zA a :: st) n h Q := by
  intro G d mc ms p l e s m args below meth c H locs cells slots lr hk C hlr hst hH hS hc1 hc2 hz
  obtain ⟨hdec, rfl⟩ := hd
  have hK := C.2.2.2.2.2.2.2.2
  have hci := z_ci hct
  have hzD : ∀ f : Nat → Int, zD G kd f = .inr (.inr (.inr (.inr (fun i => if f i < 0 then none else some (G.1 + (f i).toNat))))) := fun f => by
    rcases hkd with rfl | rfl | rfl <;> rfl
  have hi := z_idx (i := (j : Int)) (n := sz) ⟨by omega, by omega⟩ (by omega) (by omega)
  have he : (zWs G n h)[a]? = some (G.1 + a, .inl (G.2.2.2.1 (kd - 20), sz, .inr (.inr (.inr (.inr (fun i => if h a i < 0 then none else some (G.1 + (h a i).toNat))))))) := by rw [zWs_at (by omega), zN_arr ha (by omega), hzD]
  have hv : (zWs G n h)[t]? = some (G.1 + t, .inr (ct, (List.range szt).map (fun k => zEF G (zTY ct k) (h t k)))) := by rw [zWs_at (by omega), zN_obj ht hci]
  refine va_astq (D := zGD G) (tys := zTys G) (cl := zCL) (ws := zWs G n h) C.1 C.2.1 hK.1 hH.1 (zWs_D G n h) hS a (kd - 20) t ct he (r := q) (by rw [zTys_at G (by omega), show 20 + (kd - 20) = kd by omega, hty]) hv hct hi.1 hdec fun H1 locs1 hP1 hD1 hS1 => ?_
  have hset : (zWs G n h).set a (G.1 + a, .inl (G.2.2.2.1 (kd - 20), sz, .inr (.inr (.inr (.inr (va_up (fun i => if h a i < 0 then none else some (G.1 + (h a i).toNat)) (Int32.ofInt (j : Int)).toNatClampNeg (some (G.1 + t)))))))) = zWs G n (zup h a j (t : Int)) := by
    have ef : va_up (fun i => if h a i < 0 then none else some (G.1 + (h a i).toNat)) j (some (G.1 + t)) = (fun i => if (if i = j then (t : Int) else h a i) < 0 then none else some (G.1 + (if i = j then (t : Int) else h a i).toNat)) := by
      funext i
      show (if i = j then some (G.1 + t) else _) = _
      by_cases z : i = j
      · rw [if_pos z, if_pos z, if_neg (by omega)]; rfl
      · rw [if_neg z, if_neg z]
    rw [hi.2, show ((j : Int)).toNat = j from rfl, ef, ← zWs_set (h := h) (h' := zup h a j (t : Int)) (a := a) (fun a' h' => zup_off h'), zN_arr ha (by omega), zup_on, hzD]
  rw [hset] at hP1
  exact kk G d mc ms p l e s m args below meth c H1 locs1 cells slots lr hk C hlr (fun y hy => hst y (List.mem_cons_of_mem _ (List.mem_cons_of_mem _ (List.mem_cons_of_mem _ hy)))) ⟨hP1, zRg_up hH.2.1 ha (by rw [zTA, if_neg (by omega), hty]; trivial), fun h142 => by omega, zSc_up hH.2.2.2 ha⟩ hS1 hc1 hc2 hz
set_option maxHeartbeats 2000000 in
theorem z_ini (hd : zDC M pc (.invokespecial idx) 3 pc') (hl : zLk M.1.cls idx N) (hm : zMi N na) (hc : zCall N kc bc (zA a :: as) n h Q') (hk : kc + 1 ≤ k) (hb1 : bc.1 ≤ b.1) (hb2 : bc.2 ≤ b.2) (hna : as.length = na) (hsz : zSz st ≤ 8)
    (hQn : ∀ r n' h', Q' r n' h' → r = none ∧ n ≤ 142 ∧ n' = n + bc.1) (kk : ∀ n' h', Q' none n' h' → zRW M k (b.1 - bc.1, b.2 - bc.2) pc' ls st n' h' Q) : zRW M k b pc ls (as.reverse ++ zA a :: st) n h Q := by
  intro G d mc ms p l e s m args below meth c H locs cells slots lr hkd C hlr hst hH hS hc1 hc2 hz
  refine z_size fun hup => ?_
  obtain ⟨hdec, rfl⟩ := hd
  obtain ⟨m1, m2, m3, m4, m5, m6, m7⟩ := hm
  obtain ⟨hx, hb, hml, hret, hlo, hown, hnm, hts, hK⟩ := C
  have hlow := zH_low hH (Nat.le_trans hK.2.1 hS.1)
  refine z_back (va_runI (As := as.map (zE G)) (rest := st.map (zE G)) (nL := M.2.2.1) (Ts := zTb) ⟨hx, hb, hml, hown, hts⟩ (hc l G (d - 1) (by omega)) ⟨callB_of (ws' := zTb) na hts (zG_words m3) (show _ = Cond.code N.1 N.2.1 N.2.2.1 none :: zTb from by rw [m7]) rfl rfl (hts _ m2) (hts _ hl) m4 ⟨show d - 1 + 1 ≤ d by omega, show 8 + (N.2.2.1 + 11) + 64 * (d - 1) ≤ 64 * d by omega⟩, m6, hts _ m1⟩ ⟨zPc_blind G _ n h, fun U hU hW => ⟨rfl, fun x hx => ?_, by rw [hU]; exact hH, hK.go hW (by rw [hU]; exact hS), fun h142 => by rw [hU]; have := hz h142; omega⟩⟩ rfl (by rw [List.length_map]; exact hna) hlr.1 (by rw [List.map_append, List.map_reverse]; rfl) (lv_room (by rw [zSz_eq]; exact hsz)) hdec ⟨show cells + bc.1 ≤ mc by omega, show slots + bc.2 ≤ ms by omega⟩) rfl hS (fun r n' h' H1 locs1 hr hq hH1 hS1 => ?_)
  · rcases List.mem_cons.mp hx with rfl | hx
    · exact trivial
    · exact hst x (List.mem_append_left _ (List.mem_reverse.mpr hx))
  · obtain ⟨rfl, q1, q2⟩ := hQn r n' h' hq
    exact kk n' h' hq G d mc ms p l e s m args below meth c H1 locs1 _ _ lr hkd ⟨hx, hb, hml, hret, hlo, hown, hnm, hts, hK⟩ hlr (fun y hy => hst y (List.mem_append_right _ (List.mem_cons_of_mem _ hy))) hH1 hS1 (show cells + bc.1 + (b.1 - bc.1) ≤ mc by omega) (show slots + bc.2 + (b.2 - bc.2) ≤ ms by omega) (fun h142 => by
      have := hz q1
      omega)
set_option maxHeartbeats 1000000 in
theorem z_obj (hd : zDC M pc (.invokespecial idx) 3 pc') (hl : Cond.methodLink M.1.cls idx Lib.objectInit ∈ zTb) (h1 : Cond.instanceMethod Lib.objectInit ∈ zTb) (h2 : Cond.code Lib.objectInit ⟨#[0xb1]⟩ 1 none ∈ zTb) (hk : 1 ≤ k) (hsz : zSz st ≤ 8) (kk : zRW M k b pc' ls st n h Q) : zRW M k b pc ls (zA a :: st) n h Q := by
  intro G d mc ms p l e s m args below meth c H locs cells slots lr hkd C hlr hst hH hS hc1 hc2 hz
  obtain ⟨hdec, rfl⟩ := hd
  have hw := C.2.2.2.2.2.2.2.1
  refine W.objInit (idx := idx) C.1 C.2.1 C.2.2.2.2.2.1 (hw _ hl) (hw _ h1) (hw _ h2) rfl (by rw [C.2.2.1]; exact hlr.1) rfl hdec (show 1 ≤ d by omega) ?_ ?_
  · have e : ((st.map (zE G)).map fun v => v.category).sum = zSz st := zSz_eq G st
    show 2 * _ + ((st.map (zE G)).map fun v => v.category).sum + 12 ≤ 64 * d
    rw [e]
    have : (F0 m pc lr ((zA a :: st).map (zE G))).monitorRoom = 0 := rfl
    omega
  · exact kk G d mc ms p l e s m args below meth c H locs cells slots lr hkd C hlr (fun y hy => hst y (List.mem_cons_of_mem _ hy)) hH hS hc1 hc2 hz
theorem z_143 (hw : zWd h) (kk : zRW M k (b1, b2) pc ls st 143 h Q) : zRW M k (b1, b2) pc ls st 142 h Q := by
  intro G d mc ms p l e s m args below meth c H locs cells slots lr hkd C hlr hst hH hS hc1 hc2 hz
  exact kk G d mc ms p l e s m args below meth c H locs cells slots lr hkd C hlr hst ⟨hH.1, hH.2.1, fun _ => hw, hH.2.2.2⟩ hS hc1 hc2 (fun h => by omega)
set_option maxHeartbeats 2000000 in
theorem z_inn {host : String} (hd : zDC M pc (.invokespecial idx) 3 pc') (hl : (M.1.cls, idx, N.1, host) ∈ zNe) (hm : zMi N na) (hc : zCall N kc bc (zA a :: as) n h Q') (hk : kc + 1 ≤ k) (hb1 : bc.1 ≤ b.1) (hb2 : bc.2 ≤ b.2) (hna : as.length = na) (hsz : zSz st ≤ 8)
    (hQn : ∀ r n' h', Q' r n' h' → r = none ∧ n ≤ 142 ∧ n' = n + bc.1) (kk : ∀ n' h', Q' none n' h' → zRW M k (b.1 - bc.1, b.2 - bc.2) pc' ls st n' h' Q) : zRW M k b pc ls (as.reverse ++ zA a :: st) n h Q := by
  intro G d mc ms p l e s m args below meth c H locs cells slots lr hkd C hlr hst hH hS hc1 hc2 hz
  refine z_size fun hup => ?_
  obtain ⟨hdec, rfl⟩ := hd
  obtain ⟨m1, m2, m3, m4, m5, m6, m7⟩ := hm
  obtain ⟨hx, hb, hml, hret, hlo, hown, hnm, hts, hK⟩ := C
  have hlow := zH_low hH (Nat.le_trans hK.2.1 hS.1)
  refine z_back (va_runIN (host := host) (As := as.map (zE G)) (rest := st.map (zE G)) (nL := M.2.2.1) (Ts := zTb) ⟨hx, hb, hml, hown, hts⟩ (hc l G (d - 1) (by omega)) ⟨va_cnB (ws' := zTb) na hts (zG_words m3) (show _ = Cond.code N.1 N.2.1 N.2.2.1 none :: zTb from by rw [m7]) rfl rfl (hK.2.2.2.2.2.2.1 _ hl) (hts _ m2) m4 ⟨show d - 1 + 1 ≤ d by omega, show 8 + (N.2.2.1 + 11) + 64 * (d - 1) ≤ 64 * d by omega⟩, m6, hts _ m1⟩ ⟨zPc_blind G _ n h, fun U hU hW => ⟨rfl, fun x hx => ?_, by rw [hU]; exact hH, hK.go hW (by rw [hU]; exact hS), fun h142 => by rw [hU]; have := hz h142; omega⟩⟩ rfl (by rw [List.length_map]; exact hna) hlr.1 (by rw [List.map_append, List.map_reverse]; rfl) (lv_room (by rw [zSz_eq]; exact hsz)) hdec ⟨show cells + bc.1 ≤ mc by omega, show slots + bc.2 ≤ ms by omega⟩) rfl hS (fun r n' h' H1 locs1 hr hq hH1 hS1 => ?_)
  · rcases List.mem_cons.mp hx with rfl | hx
    · exact trivial
    · exact hst x (List.mem_append_left _ (List.mem_reverse.mpr hx))
  · obtain ⟨rfl, q1, q2⟩ := hQn r n' h' hq
    exact kk n' h' hq G d mc ms p l e s m args below meth c H1 locs1 _ _ lr hkd ⟨hx, hb, hml, hret, hlo, hown, hnm, hts, hK⟩ hlr (fun y hy => hst y (List.mem_append_right _ (List.mem_cons_of_mem _ hy))) hH1 hS1 (show cells + bc.1 + (b.1 - bc.1) ≤ mc by omega) (show slots + bc.2 + (b.2 - bc.2) ≤ ms by omega) (fun h142 => by
      have := hz q1
      omega)
theorem z_pr {t k0 : Nat} (hd : zDC M pc (.putfield idx) 3 pc') (hf : zFl M.1.cls idx ci k0) (ha : zSH[a]? = some (ci, sz)) (hn : a < n) (hn2 : n ≤ 142) (hi : M.1.name = "<init>") (hq : ∃ q, zCL[ci]? = some q ∧ q.1 = M.1.cls) (hr : zIsR (zTY ci k0) = true) (kk : zRW M k b pc' ls st n (zup h a k0 (t : Int)) Q) : zRW M k b pc ls (zA t :: zA a :: st) n h Q := by
  refine z_putf (t : Int) hd hf ha (by omega) (Or.inr ⟨hi, hq⟩) (fun h => by omega) (fun _ => ?_) kk
  generalize zTY ci k0 = ty at hr
  cases ty <;> first | (cases hr; done) | exact ⟨fun G => ⟨by show (if (t : Int) < 0 then Value.null else Value.ref (G.1 + (t : Int).toNat)) = zE G (zA t); rw [if_neg (by omega)]; rfl, rfl, rfl⟩, trivial⟩
theorem z_pin {k0 : Nat} (hd : zDC M pc (.putfield idx) 3 pc') (hf : zPi M.1.cls idx ci k0) (ha : zSH[a]? = some (ci, sz)) (hn : a < n) (hn2 : n ≤ 142) (kk : zRW M k b pc' ls st n (zup h a k0 v) Q) : zRW M k b pc ls (zI v :: zA a :: st) n h Q := by
  refine z_putf v hd hf.1 ha (by omega) (Or.inl hf.2.2) (fun h => by omega) (fun hv => ?_) kk
  rw [hf.2.1]
  exact ⟨fun G => ⟨rfl, rfl, rfl⟩, hv⟩
theorem z_pjn {k0 : Nat} (hd : zDC M pc (.putfield idx) 3 pc') (hf : zPj M.1.cls idx ci k0) (ha : zSH[a]? = some (ci, sz)) (hn : a < n) (hn2 : n ≤ 142) (kk : zRW M k b pc' ls st n (zup h a k0 v) Q) : zRW M k b pc ls (zJ v :: zA a :: st) n h Q := by
  refine z_putf v hd hf.1 ha (by omega) (Or.inl hf.2.2) (fun h => by omega) (fun hv => ?_) kk
  rw [hf.2.1]
  exact ⟨fun G => ⟨rfl, rfl, rfl⟩, hv⟩
theorem z_gr {t k0 : Nat} (hd : zDC M pc (.getfield idx) 3 pc') (hf : zFa M.1.cls idx ci k0) (ha : zSH[a]? = some (ci, sz)) (hn : a < n) (hn2 : n ≤ 142) (ht : h a k0 = (t : Int)) (kk : zRW M k b pc' ls (zA t :: st) n h Q) : zRW M k b pc ls (zA a :: st) n h Q := by
  refine z_getf hd hf.1 ha (by omega) (zA t) (fun _ _ => ?_) kk
  rw [ht]
  have hr := hf.2
  generalize zTY ci k0 = ty at hr
  cases ty <;> first | (cases hr; done) | exact ⟨fun G => by show (if (t : Int) < 0 then Value.null else Value.ref (G.1 + (t : Int).toNat)) = zE G (zA t); rw [if_neg (by omega)]; rfl, trivial⟩
def zups (h : zHp) (L : List (Nat × Nat × Int)) : zHp := L.foldl (fun g u => zup g u.1 u.2.1 u.2.2) h
end
