-- rows for what constructors do: new objects and arrays, references put, constructors called
def zdf (a i : Nat) : Int := match zSH[a]? with
  | some (kd, _) => if zIsR (zTA kd i) = true then -1 else 0
  | none => 0
theorem zdf_e {a kd sz : Nat} (h : zSH[a]? = some (kd, sz)) (i : Nat) : zdf a i = if zIsR (zTA kd i) = true then -1 else 0 := by unfold zdf; rw [h]
def z_tyok (ty : FieldType) : Bool := match ty with
  | .float => false
  | .double => false
  | .char => false
  | .short => false
  | _ => true
theorem z_def (G : zG) (ty : FieldType) (h : z_tyok ty = true) : zEF G ty (if zIsR ty = true then -1 else 0) = defaultValue ty ∧ zRF ty (if zIsR ty = true then -1 else 0) := by
  cases ty <;> first | (cases h; done) | exact ⟨rfl, trivial⟩ | exact ⟨rfl, by decide⟩ | exact ⟨rfl, by show _ ∧ _; decide⟩
theorem z_tyAll : (List.range 13).all (fun ci => match zCL[ci]? with | some q => (List.range q.2.2).all (fun k => z_tyok (zTY ci k)) | none => true) = true := by decide +kernel
theorem z_tyc {ci : Nat} {q : vw_C} (hc : zCL[ci]? = some q) {k : Nat} (hk : k < q.2.2) : z_tyok (zTY ci k) = true := by
  have h := List.all_eq_true.mp z_tyAll ci (List.mem_range.mpr (z_ci hc))
  rw [hc] at h
  exact List.all_eq_true.mp h k (List.mem_range.mpr hk)
theorem zWs_s {G : zG} {n : Nat} {h : zHp} (hn : n < 142) : zWs G (n + 1) h = zWs G n h ++ [(G.1 + n, zN G n (h n))] := by
  unfold zWs
  rw [show min (n + 1) 142 = n + 1 by omega, show min n 142 = n by omega, List.range_succ, List.map_append]
  rfl
theorem z_addr {G : zG} {n q : Nat} {h : zHp} {e : va_E} {H1 : Heap} (hn : n < 142) (hP : va_P (zGD G) zCL (zWs G n h ++ [(q, e)]) H1) (hD : va_D (zAf G) (zWs G n h ++ [(q, e)])) (hz : H1.size ≤ G.1 + n + 1) : q = G.1 + n := by
  have hl : (zWs G n h).length = n := by rw [zWs_len]; omega
  have hq : (zWs G n h ++ [(q, e)])[n]? = some (q, e) := by rw [List.getElem?_append_right (by omega), hl, Nat.sub_self]; rfl
  have h1 : q < H1.size := (hP n _ hq).lt
  have h2 : G.1 ≤ q := hD.2 n _ hq
  by_cases z : q = G.1 + n
  · exact z
  · have ha : (zWs G n h ++ [(q, e)])[q - G.1]? = some (G.1 + (q - G.1), zN G (q - G.1) (h (q - G.1))) := by rw [List.getElem?_append_left (by omega)]; exact zWs_at (by omega)
    have := hD.1 _ _ _ _ ha hq (by show G.1 + (q - G.1) = q; omega)
    omega
theorem zRg_s {n : Nat} {h : zHp} {kd sz : Nat} (hr : zRg n h) (hn : n < 142) (hs : zSH[n]? = some (kd, sz)) (hz : ∀ i : Nat, i < sz → zRF (zTA kd i) (h n i)) : zRg (n + 1) h := by
  intro a i kd' sz' ha hs' hi
  by_cases z : a = n
  · subst z
    rw [hs] at hs'
    cases hs'
    exact hz i hi
  · exact hr a i kd' sz' (by omega) hs' hi
section
variable {M N : zM} {k kc : Nat} {b1 b2 : Nat} {b bc : Nat × Nat} {pc pc' idx ci na a sz : Nat} {ls st as : List zV} {n : Nat} {h : zHp} {Q Q' : Option zV → Nat → zHp → Prop} {i v : Int}
set_option maxHeartbeats 1000000 in
theorem z_newc {C : String} {T : u_T} {F : Nat} (hd : zDC M pc (.new idx) 3 pc') (hl : Cond.classLink M.1.cls idx C ∈ zTb) (hi : Cond.instantiable C F ∈ zTb) (h0 : Cond.initialized C ∈ zTb) (hc : zCL[ci]? = some (C, T, F)) (hs : zSH[n]? = some (ci, F)) (hn : n < 142) (hdef : h n = zdf n) (kk : zRW M k (b1, b2) pc' ls (zA n :: st) (n + 1) h Q) : zRW M k (b1 + 1, b2 + F) pc ls st n h Q := by
  intro G d mc ms p l e s m args below meth c H locs cells slots lr hk C hlr hst hH hS hc1 hc2 hz
  obtain ⟨hdec, rfl⟩ := hd
  obtain ⟨hin, hty, hnm, hsz⟩ := z_cf ci _ hc
  have hci := z_ci hc
  have hw := C.2.2.2.2.2.2.2.1
  have hK := C.2.2.2.2.2.2.2.2
  have hc1' : cells + (b1 + 1) ≤ mc := hc1
  have hc2' : slots + (b2 + F) ≤ ms := hc2
  have hdk : ∀ j : Nat, j < F → zEF G (zTY ci j) (h n j) = defaultValue (zTY ci j) ∧ zRF (zTY ci j) (h n j) := fun j hj => by
    rw [hdef, zdf_e hs, zTA, if_pos hci]
    exact z_def G _ (z_tyc hc hj)
  refine va_new (D := zGD G) (tys := zTys G) (cl := zCL) (ws := zWs G n h) C.1 C.2.1 hw hin (zTY ci) hty C.2.2.2.2.2.1 (hw _ hl) (hw _ hi) (hw _ h0) hK.1 hH.1 (zWs_D G n h) hS (fun q hq => Nat.le_trans hK.2.1 hq) hc (fs := (List.range F).map (fun k => zEF G (zTY ci k) (h n k))) (fun j hj => ?_) (show cells + 1 ≤ mc by omega) (show slots + F ≤ ms by omega) hdec fun q H1 hP1 hD1 hS1 => ?_
  · rw [← (hdk j hj).1]
    simp [vp_V, hj]
  · refine z_size fun hup => ?_
    have hq := z_addr hn hP1 hD1 (by have := hz (by omega); omega)
    subst hq
    have hN : zN G n (h n) = .inr (ci, (List.range F).map (fun k => zEF G (zTY ci k) (h n k))) := zN_obj hs hci (h n)
    rw [← hN, ← zWs_s hn] at hP1
    exact kk G d mc ms p l e s m args below meth c H1 locs (cells + 1) (slots + F) lr hk C hlr (fun x hx => by
      rcases List.mem_cons.mp hx with rfl | hx
      · trivial
      · exact hst x hx) ⟨hP1, zRg_s hH.2.1 hn hs (fun j hj => by rw [zTA, if_pos hci]; exact (hdk j hj).2), fun h142 => by omega, hH.2.2.2⟩ hS1 (show cells + 1 + b1 ≤ mc by omega) (show slots + F + b2 ≤ ms by omega) (fun h142 => by have := hz (by omega); omega)
end
