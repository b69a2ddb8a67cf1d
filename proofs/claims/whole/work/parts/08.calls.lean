-- rows of calls, of ends, of arraycopy
def zSz (st : List zV) : Nat := (st.map (fun x => if x.1 = 1 then 2 else 1)).sum
theorem zSz_eq (G : zG) (st : List zV) : ((st.map (zE G)).map fun v => v.category).sum = zSz st := by
  unfold zSz
  rw [List.map_map]
  congr 1
  apply List.map_congr_left
  intro x _
  exact zE_cat G x
theorem zH_low {G : zG} {n : Nat} {h : zHp} {H : Heap} (hH : zH G n h H) (hG : G.1 ≤ H.size) : G.1 + min n 142 ≤ H.size := by
  by_cases h0 : min n 142 = 0
  · omega
  · have hl : min n 142 - 1 < min n 142 := by omega
    have := (hH.1 _ _ (zWs_at (G := G) (h := h) hl)).lt
    dsimp only at this
    omega
def zMt (N : zM) (ci na : Nat) : Prop := Cond.instanceMethod N.1 ∈ zTb ∧ Cond.selects N.1.cls N.1 N.1 ∈ zTb ∧ Cond.initialized N.1.cls ∈ zTb ∧ Cond.code N.1 N.2.1 N.2.2.1 N.2.2.2 ∈ zTb ∧ (N.1.cls ≠ "java/lang/invoke/MethodHandle" ∧ N.1.cls ≠ "java/lang/invoke/VarHandle" ∧ (parseMethodDescriptor N.1.desc).map (fun d => d.parameters.length) = some na) ∧ (∃ (T : u_T) (Nf : Nat), zCL[ci]? = some (N.1.cls, T, Nf)) ∧ N.2.2.1 ≤ 40
def zMs (N : zM) (na : Nat) : Prop := Cond.static N.1 ∈ zTb ∧ Cond.initialized N.1.cls ∈ zTb ∧ Cond.code N.1 N.2.1 N.2.2.1 N.2.2.2 ∈ zTb ∧ (N.1.cls ≠ "java/lang/invoke/MethodHandle" ∧ N.1.cls ≠ "java/lang/invoke/VarHandle" ∧ (parseMethodDescriptor N.1.desc).map (fun d => d.parameters.length) = some na) ∧ N.2.2.1 ≤ 40
def zMi (N : zM) (na : Nat) : Prop := Cond.instanceMethod N.1 ∈ zTb ∧ Cond.initialized N.1.cls ∈ zTb ∧ Cond.code N.1 N.2.1 N.2.2.1 N.2.2.2 ∈ zTb ∧ (N.1.cls ≠ "java/lang/invoke/MethodHandle" ∧ N.1.cls ≠ "java/lang/invoke/VarHandle" ∧ (parseMethodDescriptor N.1.desc).map (fun d => d.parameters.length) = some na) ∧ N.2.2.1 ≤ 40 ∧ N.1.name = "<init>" ∧ N.2.2.2 = none
def zLk (own : String) (idx : Nat) (N : zM) : Prop := Cond.methodLink own idx N.1 ∈ zTb
theorem zG_words {N : zM} (h : Cond.code N.1 N.2.1 N.2.2.1 N.2.2.2 ∈ zTb) : GoodIn zTb (.code N.1 N.2.1 N.2.2.1 N.2.2.2 :: zTb) := zTb_good (fun w hw => by
  rcases List.mem_cons.mp hw with rfl | hw
  · exact h
  · exact hw)
section
variable {M N : zM} {k kc : Nat} {b bc : Nat × Nat} {pc pc' idx ci na a sz : Nat} {ls st as : List zV} {n : Nat} {h : zHp} {Q Q' : Option zV → Nat → zHp → Prop} {i v : Int}
set_option maxHeartbeats 2000000 in
theorem z_inv (hd : zDC M pc (.invokevirtual idx) 3 pc') (hl : zLk M.1.cls idx N) (hm : zMt N ci na) (hc : zCall N kc bc (zA a :: as) n h Q') (hk : kc + 1 ≤ k) (hb1 : bc.1 ≤ b.1) (hb2 : bc.2 ≤ b.2) (ha : zSH[a]? = some (ci, sz)) (hn : a < min n 142) (hna : as.length = na) (hsz : zSz st ≤ 8)
    (hQn : ∀ r n' h', Q' r n' h' → n' ≤ 142 → n ≤ 142 ∧ n' = n + bc.1) (kk : ∀ r n' h', (∀ x, r = some x → zR x) → Q' r n' h' → zRW M k (b.1 - bc.1, b.2 - bc.2) pc' ls (r.toList ++ st) n' h' Q) : zRW M k b pc ls (as.reverse ++ zA a :: st) n h Q := by
  intro G d mc ms p l e s m args below meth c H locs cells slots lr hkd C hlr hst hH hS hc1 hc2 hz
  refine z_size fun hup => ?_
  obtain ⟨hdec, rfl⟩ := hd
  obtain ⟨m1, m2, m3, m4, m5, ⟨T, Nf, m6⟩, m7⟩ := hm
  obtain ⟨hx, hb, hml, hret, hlo, hown, hnm, hts, hK⟩ := C
  have hci := z_ci m6
  have hlow := zH_low hH (Nat.le_trans hK.2.1 hS.1)
  have he : (zWs G n h)[a]? = some (G.1 + a, .inr (ci, (List.range sz).map (fun k => zEF G (zTY ci k) (h a k)))) := by rw [zWs_at hn, zN_obj ha hci]
  refine z_back (va_runV (C := N.1.cls) (As := as.map (zE G)) (rest := st.map (zE G)) (nL := M.2.2.1) (Ts := zTb) ⟨hx, hb, hml, hown, hts⟩ (hc l G (d - 1) (by omega)) ⟨callB_of (ws' := zTb) na hts (zG_words m4) rfl rfl rfl (hts _ m3) (hts _ hl) m5 ⟨show d - 1 + 1 ≤ d by omega, show 8 + (N.2.2.1 + 11) + 64 * (d - 1) ≤ 64 * d by omega⟩, hts _ m1, hts _ m2⟩ ⟨zPc_blind G _ n h, va_recv hK.1 hH.1 (ci := ci) (q0 := a) m6 he, fun U hU hW => ⟨rfl, fun x hx => ?_, by rw [hU]; exact hH, hK.go hW (by rw [hU]; exact hS), fun h142 => by rw [hU]; have := hz h142; omega⟩⟩ rfl (by rw [List.length_map]; exact hna) hlr.1 (by rw [List.map_append, List.map_reverse]; rfl) (lv_room (by rw [zSz_eq]; exact hsz)) hdec ⟨show cells + bc.1 ≤ mc by omega, show slots + bc.2 ≤ ms by omega⟩) rfl hS (fun r n' h' H1 locs1 hr hq hH1 hS1 => ?_)
  · rcases List.mem_cons.mp hx with rfl | hx
    · exact trivial
    · exact hst x (List.mem_append_left _ (List.mem_reverse.mpr hx))
  · have ee : (r.map (zE G)).toList ++ st.map (zE G) = (r.toList ++ st).map (zE G) := by cases r <;> rfl
    rw [ee]
    exact kk r n' h' hr hq G d mc ms p l e s m args below meth c H1 locs1 _ _ lr hkd ⟨hx, hb, hml, hret, hlo, hown, hnm, hts, hK⟩ hlr (fun y hy => by
      rcases List.mem_append.mp hy with hy | hy
      · exact hr y (by cases r with
          | none => cases hy
          | some z => simp at hy; rw [hy])
      · exact hst y (List.mem_append_right _ (List.mem_cons_of_mem _ hy))) hH1 hS1 (show cells + bc.1 + (b.1 - bc.1) ≤ mc by omega) (show slots + bc.2 + (b.2 - bc.2) ≤ ms by omega) (fun h142 => by
      obtain ⟨q1, q2⟩ := hQn r n' h' hq h142
      have := hz q1
      omega)
set_option maxHeartbeats 2000000 in
theorem z_ins (hd : zDC M pc (.invokestatic idx) 3 pc') (hl : zLk M.1.cls idx N) (hm : zMs N na) (hc : zCall N kc bc as n h Q') (hk : kc + 1 ≤ k) (hb1 : bc.1 ≤ b.1) (hb2 : bc.2 ≤ b.2) (hna : as.length = na) (hsz : zSz st ≤ 8)
    (hQn : ∀ r n' h', Q' r n' h' → n' ≤ 142 → n ≤ 142 ∧ n' = n + bc.1) (kk : ∀ r n' h', (∀ x, r = some x → zR x) → Q' r n' h' → zRW M k (b.1 - bc.1, b.2 - bc.2) pc' ls (r.toList ++ st) n' h' Q) : zRW M k b pc ls (as.reverse ++ st) n h Q := by
  intro G d mc ms p l e s m args below meth c H locs cells slots lr hkd C hlr hst hH hS hc1 hc2 hz
  refine z_size fun hup => ?_
  obtain ⟨hdec, rfl⟩ := hd
  obtain ⟨m1, m3, m4, m5, m7⟩ := hm
  obtain ⟨hx, hb, hml, hret, hlo, hown, hnm, hts, hK⟩ := C
  have hlow := zH_low hH (Nat.le_trans hK.2.1 hS.1)
  refine z_back (va_runS (As := as.map (zE G)) (rest := st.map (zE G)) (nL := M.2.2.1) (Ts := zTb) ⟨hx, hb, hml, hown, hts⟩ (hc l G (d - 1) (by omega)) ⟨callB_of (ws' := zTb) na hts (zG_words m4) rfl rfl rfl (hts _ m3) (hts _ hl) m5 ⟨show d - 1 + 1 ≤ d by omega, show 8 + (N.2.2.1 + 11) + 64 * (d - 1) ≤ 64 * d by omega⟩, hts _ m1⟩ ⟨zPc_blind G _ n h, fun U hU hW => ⟨rfl, fun x hx => ?_, by rw [hU]; exact hH, hK.go hW (by rw [hU]; exact hS), fun h142 => by rw [hU]; have := hz h142; omega⟩⟩ rfl (by rw [List.length_map]; exact hna) hlr.1 (by rw [List.map_append, List.map_reverse]) (lv_room (by rw [zSz_eq]; exact hsz)) hdec ⟨show cells + bc.1 ≤ mc by omega, show slots + bc.2 ≤ ms by omega⟩) rfl hS (fun r n' h' H1 locs1 hr hq hH1 hS1 => ?_)
  · exact hst x (List.mem_append_left _ (List.mem_reverse.mpr hx))
  · have ee : (r.map (zE G)).toList ++ st.map (zE G) = (r.toList ++ st).map (zE G) := by cases r <;> rfl
    rw [ee]
    exact kk r n' h' hr hq G d mc ms p l e s m args below meth c H1 locs1 _ _ lr hkd ⟨hx, hb, hml, hret, hlo, hown, hnm, hts, hK⟩ hlr (fun y hy => by
      rcases List.mem_append.mp hy with hy | hy
      · exact hr y (by cases r with
          | none => cases hy
          | some z => simp at hy; rw [hy])
      · exact hst y (List.mem_append_right _ hy)) hH1 hS1 (show cells + bc.1 + (b.1 - bc.1) ≤ mc by omega) (show slots + bc.2 + (b.2 - bc.2) ≤ ms by omega) (fun h142 => by
      obtain ⟨q1, q2⟩ := hQn r n' h' hq h142
      have := hz q1
      omega)
end
