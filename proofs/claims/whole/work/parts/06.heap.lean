-- rows that read and write cells
theorem z_size {p : Program} {l : Launch} {e : Env} {R : Room} {s : State} {m : MethodId} {args : Array Value} {below : List Frame} {meth : Method} {c : Code} {H : Heap} {locs : List Loc} {cells slots : Nat} {Z : State → Prop} {g : JFrame}
    (k : H.size ≤ s.heap.size + cells → W p l e R s m args below meth c H locs cells slots Z g) : W p l e R s m args below meth c H locs cells slots Z g := fun T hT X => k (hT ▸ X.heapSize) T hT X
/-- what is known of a running method's numbers may be taken up at any place -/
theorem z_rg {M : zM} {k : Nat} {b : Nat × Nat} {pc : Nat} {ls st : List zV} {n : Nat} {h : zHp} {Q : Option zV → Nat → zHp → Prop} (kk : zRg n h → (∀ x ∈ st, zR x) → (∀ x ∈ ls, ¬ x.1 = 9 → zR x) → zRW M k b pc ls st n h Q) : zRW M k b pc ls st n h Q := by
  intro G d mc ms p l e s m args below meth c H locs cells slots lr hk C hl hst hH hS hc1 hc2 hz
  exact kk hH.2.1 hst (fun x hx h9 => by
    obtain ⟨i, hi⟩ := List.mem_iff_getElem?.mp hx
    exact (hl.2.2.1 i x hi h9).2) G d mc ms p l e s m args below meth c H locs cells slots lr hk C hl hst hH hS hc1 hc2 hz
theorem z_wk {M : zM} {k : Nat} {b : Nat × Nat} {pc : Nat} {ls st : List zV} {n : Nat} {h : zHp} {Q Q' : Option zV → Nat → zHp → Prop} (hq : ∀ r n h, Q' r n h → Q r n h) (kk : zRW M k b pc ls st n h Q') : zRW M k b pc ls st n h Q := by
  intro G d mc ms p l e s m args below meth c H locs cells slots lr hk C hl hst hH hS hc1 hc2 hz T hT X
  obtain ⟨t, a, o, b1, b2, ⟨⟨r, n1, h1, c1, c2, c3, c4⟩, c5⟩, b4⟩ := kk G d mc ms p l e s m args below meth c H locs cells slots lr hk C hl hst hH hS hc1 hc2 hz T hT X
  exact ⟨t, a, o, b1, b2, ⟨⟨r, n1, h1, c1, c2, hq _ _ _ c3, c4⟩, c5⟩, b4⟩
theorem zN_obj {G : zG} {a ci sz : Nat} (ha : zSH[a]? = some (ci, sz)) (hc : ci < 13) (f : Nat → Int) : zN G a f = .inr (ci, (List.range sz).map (fun k => zEF G (zTY ci k) (f k))) := by
  simp [zN, ha, hc]
theorem zN_arr {G : zG} {a ci sz : Nat} (ha : zSH[a]? = some (ci, sz)) (hc : ¬ ci < 13) (f : Nat → Int) : zN G a f = .inl (G.2.2.2.1 (ci - 20), sz, zD G ci f) := by
  simp [zN, ha, hc]
theorem z_ci {ci : Nat} {q : vw_C} (h : zCL[ci]? = some q) : ci < 13 := (List.getElem?_eq_some_iff.mp h).1
set_option maxHeartbeats 1000000 in
theorem z_getf {M : zM} {k : Nat} {b : Nat × Nat} {pc pc' idx ci k0 a sz : Nat} {ls st : List zV} {n : Nat} {h : zHp} {Q : Option zV → Nat → zHp → Prop} (hd : zDC M pc (.getfield idx) 3 pc') (hf : zFl M.1.cls idx ci k0) (ha : zSH[a]? = some (ci, sz)) (hn : a < min n 142) (x : zV)
    (hx : zRF (zTY ci k0) (h a k0) → (142 < n → zWd h) → (∀ G, zEF G (zTY ci k0) (h a k0) = zE G x) ∧ zR x) (kk : zRW M k b pc' ls (x :: st) n h Q) : zRW M k b pc ls (zA a :: st) n h Q := by
  intro G d mc ms p l e s m args below meth c H locs cells slots lr hk C hl hst hH hS hc1 hc2 hz
  obtain ⟨Cn, T, N, hc, hk0, hT, hlk⟩ := hf
  obtain ⟨hin, hty, hnm, hsz⟩ := z_cf ci _ hc
  have hszN : sz = N := hsz a ci sz ha rfl
  subst hszN
  have hci := z_ci hc
  obtain ⟨hdec, rfl⟩ := hd
  obtain ⟨hx1, hx2⟩ := hx (by have := hH.2.1 a k0 ci sz hn ha hk0; rwa [zTA, if_pos hci] at this) hH.2.2.1
  have he : (zWs G n h)[a]? = some (G.1 + a, .inr (ci, (List.range sz).map (fun k => zEF G (zTY ci k) (h a k)))) := by rw [zWs_at hn, zN_obj ha hci]
  refine va_get (D := zGD G) (ws := zWs G n h) (tys := zTys G) (cl := zCL) C.1 C.2.1 C.2.2.2.2.2.2.2.1 hin C.2.2.2.2.2.1 C.2.2.2.2.2.2.2.2.1 hH.1 a he hc k0 hk0 (C.2.2.2.2.2.2.2.1 _ hlk) (fun y hy => by rw [hT] at hy; exact hy) (v := zE G x) (by rw [List.getElem?_map, List.getElem?_range hk0, Option.map_some, hx1 G]) hdec ?_
  exact kk G d mc ms p l e s m args below meth c H locs cells slots lr hk C hl (fun y hy => by
    rcases List.mem_cons.mp hy with rfl | hy
    · exact hx2
    · exact hst y (List.mem_cons_of_mem _ hy)) hH hS hc1 hc2 hz
theorem zcell_set (G : zG) (ci sz k0 : Nat) (f : Nat → Int) (v : Int) : (List.range sz).map (fun k => zEF G (zTY ci k) (if k = k0 then v else f k)) = ((List.range sz).map (fun k => zEF G (zTY ci k) (f k))).set k0 (zEF G (zTY ci k0) v) := by
  apply List.ext_getElem?
  intro i
  rw [List.getElem?_set]
  by_cases hi : i < sz
  · simp only [List.getElem?_map, List.getElem?_range hi, Option.map_some, List.length_map, List.length_range]
    by_cases hk : k0 = i
    · subst hk; simp [hi]
    · rw [if_neg hk, if_neg (fun e => hk e.symm)]
  · have e : (List.range sz)[i]? = none := List.getElem?_eq_none (by simp; omega)
    simp only [List.getElem?_map, e, Option.map_none, List.length_map, List.length_range]
    split
    · next hk => subst hk; rw [if_neg hi]
    · rfl
theorem zRg_up {n : Nat} {h : zHp} {a i : Nat} {v : Int} (hr : zRg n h) {kd sz : Nat} (ha : zSH[a]? = some (kd, sz)) (hv : zRF (zTA kd i) v) : zRg n (zup h a i v) := by
  intro a' i' kd' sz' h1 h2 h3
  by_cases e : a' = a ∧ i' = i
  · obtain ⟨rfl, rfl⟩ := e
    rw [zup_at]
    cases ha.symm.trans h2
    exact hv
  · rw [zup_ne e]
    exact hr a' i' kd' sz' h1 h2 h3
theorem zWd_up {h : zHp} {a i : Nat} {v : Int} (hw : zWd h) {kd sz : Nat} (ha : zSH[a]? = some (kd, sz)) (hv : zIsR (zTA kd i) = false) : zWd (zup h a i v) := by
  intro a' i' kd' sz' h2 h3 h4
  by_cases e : a' = a ∧ i' = i
  · obtain ⟨rfl, rfl⟩ := e
    cases ha.symm.trans h2
    rw [hv] at h4
    cases h4
  · rw [zup_ne e]
    exact hw a' i' kd' sz' h2 h3 h4
theorem zSc_up {G : zG} {h : zHp} {a i : Nat} {v : Int} (hc : zSc G h) {q : Nat × Nat} (ha : zSH[a]? = some q) : zSc G (zup h a i v) := by
  have h1 : a < 142 := (List.getElem?_eq_some_iff.mp ha).1
  refine ⟨fun j hj => ?_, ?_⟩
  · rw [zup_off (by omega)]
    exact hc.1 j hj
  · rw [zup_off (by omega)]
    exact hc.2
def zFin (ci k0 : Nat) : Bool := match zCL[ci]? with
  | some q => (q.2.1 k0).2.2.2
  | none => false
set_option maxHeartbeats 1000000 in
theorem z_putf {M : zM} {k : Nat} {b : Nat × Nat} {pc pc' idx ci k0 a sz : Nat} {ls st : List zV} {n : Nat} {h : zHp} {Q : Option zV → Nat → zHp → Prop} {x : zV} (v : Int) (hd : zDC M pc (.putfield idx) 3 pc') (hf : zFl M.1.cls idx ci k0) (ha : zSH[a]? = some (ci, sz)) (hn : a < min n 142)
    (hfin : zFin ci k0 = false ∨ (M.1.name = "<init>" ∧ ∃ q, zCL[ci]? = some q ∧ q.1 = M.1.cls)) (hw : 142 < n → zIsR (zTY ci k0) = false)
    (hx : zR x → (∀ G, zEF G (zTY ci k0) v = zE G x ∧ narrow (zTY ci k0) (zE G x) = zE G x ∧ fits (zTY ci k0) (zE G x) = true) ∧ zRF (zTY ci k0) v) (kk : zRW M k b pc' ls st n (zup h a k0 v) Q) : zRW M k b pc ls (x :: zA a :: st) n h Q := by
  intro G d mc ms p l e s m args below meth c H locs cells slots lr hk C hl hst hH hS hc1 hc2 hz
  obtain ⟨Cn, T, N, hc, hk0, hT, hlk⟩ := hf
  obtain ⟨hin, hty, hnm, hsz⟩ := z_cf ci _ hc
  have hszN : sz = N := hsz a ci sz ha rfl
  subst hszN
  have hci := z_ci hc
  obtain ⟨hdec, rfl⟩ := hd
  obtain ⟨hx1, hx2⟩ := hx (hst x List.mem_cons_self)
  have hta : zTA ci k0 = zTY ci k0 := by rw [zTA, if_pos hci]
  have he : (zWs G n h)[a]? = some (G.1 + a, .inr (ci, (List.range sz).map (fun k => zEF G (zTY ci k) (h a k)))) := by rw [zWs_at hn, zN_obj ha hci]
  have hset : (zWs G n h).set a (G.1 + a, .inr (ci, ((List.range sz).map (fun k => zEF G (zTY ci k) (h a k))).set k0 (zE G x))) = zWs G n (zup h a k0 v) := by
    rw [← zWs_set (h := h) (h' := zup h a k0 v) (a := a) (fun a' h' => zup_off h'), zN_obj ha hci, zup_on, zcell_set, (hx1 G).1]
  have hgo : ∀ (H1 : Heap) (locs1 : List Loc), va_P (zGD G) zCL ((zWs G n h).set a (G.1 + a, .inr (ci, ((List.range sz).map (fun k => zEF G (zTY ci k) (h a k))).set k0 (zE G x)))) H1 → va_D (zAf G) ((zWs G n h).set a (G.1 + a, .inr (ci, ((List.range sz).map (fun k => zEF G (zTY ci k) (h a k))).set k0 (zE G x)))) → va_S (zAf G) s.heap H1 locs1 →
      W p l e (zRm d mc ms) s m args below meth c H1 locs1 cells slots (MQ below (zQC G Q) args s mc ms (zAf G)) (F0 m (pc + 3) lr (st.map (zE G))) := by
    intro H1 locs1 hP1 hD1 hS1
    rw [hset] at hP1
    exact kk G d mc ms p l e s m args below meth c H1 locs1 cells slots lr hk C hl (fun y hy => hst y (List.mem_cons_of_mem _ (List.mem_cons_of_mem _ hy))) ⟨hP1, zRg_up hH.2.1 ha (by rw [hta]; exact hx2), fun h142 => zWd_up (hH.2.2.1 h142) ha (by rw [hta]; exact hw h142), zSc_up hH.2.2.2 ha⟩ hS1 hc1 hc2 hz
  have hsame : ∀ y, s.fieldFound? (T k0).1 (T k0).2.1 (T k0).2.2.1 = some y → s.fieldFound? Cn (T k0).2.1 (T k0).2.2.1 = some y := fun y hy => by rw [hT] at hy; exact hy
  have hlen : k0 < ((List.range sz).map (fun k => zEF G (zTY ci k) (h a k))).length := by simpa using hk0
  cases hfq : (T k0).2.2.2 with
  | false => exact va_put (D := zGD G) (ws := zWs G n h) (tys := zTys G) (cl := zCL) C.1 C.2.1 C.2.2.2.2.2.2.2.1 hin (zTY ci) hty hnm C.2.2.2.2.2.1 C.2.2.2.2.2.2.2.2.1 hH.1 (zWs_D G n h) hS a he hc k0 hk0 (C.2.2.2.2.2.2.2.1 _ hlk) hsame hfq (hty k0 hk0) (v := zE G x) (hx1 G).2.1 (hx1 G).2.2 hlen hdec hgo
  | true =>
    rcases hfin with hfin | ⟨hi, q, hq, hq1⟩
    · simp [zFin, hc, hfq] at hfin
    · cases hc.symm.trans hq
      exact va_putF (D := zGD G) (ws := zWs G n h) (tys := zTys G) (cl := zCL) C.1 C.2.1 C.2.2.2.2.2.2.2.1 hin (zTY ci) hty hnm C.2.2.2.2.2.1 C.2.2.2.2.2.2.2.2.1 hH.1 (zWs_D G n h) hS a he hc k0 hk0 (C.2.2.2.2.2.2.2.1 _ hlk) hsame hfq (C.2.2.2.2.2.2.1.trans hi) (by rw [hT]; exact hq1) (hty k0 hk0) (v := zE G x) (hx1 G).2.1 (hx1 G).2.2 hlen hdec hgo
