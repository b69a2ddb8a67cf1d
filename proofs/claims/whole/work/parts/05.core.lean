-- how a method is entered, how it calls, how it ends; cells read and written
theorem zE_cat (G : zG) (x : zV) : (zE G x).category = if x.1 = 1 then 2 else 1 := by
  obtain ⟨t, v⟩ := x
  match t with
  | 0 => rfl
  | 1 => rfl
  | 2 => rfl
  | 3 => rfl
  | 4 => rfl
  | 5 => rfl
  | 6 =>
    show (if v < 0 then Value.null else Value.ref v.toNat).category = 1
    split <;> rfl
  | k + 7 => simp [zE, Value.category]
def zSl (as : List zV) : List zV := as.flatMap (fun x => if x.1 = 1 then [x, zU] else [x])
theorem zSl_len (G : zG) (as : List zV) : (lg_sl (as.map (zE G))).length = (zSl as).length := by
  induction as with
  | nil => rfl
  | cons x as ih =>
    simp only [lg_sl, zSl, List.map_cons, List.flatMap_cons, List.length_append] at ih ⊢
    rw [ih, zE_cat]
    by_cases h : x.1 = 1 <;> simp [h]
theorem zSl_args (G : zG) (as : List zV) : ∀ (j i : Nat) (x : zV), (zSl as)[i]? = some x → ¬ x.1 = 9 → (j + i, zE G x) ∈ lv_args j (as.map (zE G)) := by
  induction as with
  | nil => intro j i x h; simp [zSl] at h
  | cons y as ih =>
    intro j i x h hx
    simp only [zSl, List.flatMap_cons] at h
    simp only [List.map_cons, lv_args, zE_cat]
    by_cases hy : y.1 = 1
    · simp only [hy, if_true] at h ⊢
      match i, h with
      | 0, h => cases h; exact List.mem_cons_self
      | 1, h => cases h; exact absurd rfl hx
      | i + 2, h =>
        have h2 := ih (j + 2) i x (by simpa [zSl] using h) hx
        exact List.mem_cons_of_mem _ (by rw [show j + (i + 2) = j + 2 + i by omega]; exact h2)
    · simp only [hy, if_false] at h ⊢
      match i, h with
      | 0, h => cases h; exact List.mem_cons_self
      | i + 1, h =>
        have h2 := ih (j + 1) i x (by simpa [zSl] using h) hx
        exact List.mem_cons_of_mem _ (by simpa [show j + (i + 1) = j + 1 + i by omega] using h2)
theorem zSl_r (as : List zV) (h : ∀ x ∈ as, zR x) : ∀ (i : Nat) (x : zV), (zSl as)[i]? = some x → zR x := by
  intro i x hi
  have := List.mem_of_getElem? hi
  obtain ⟨y, hy, hx⟩ := List.mem_flatMap.mp this
  by_cases h1 : y.1 = 1
  · simp only [h1, if_true, List.mem_cons, List.not_mem_nil, or_false] at hx
    rcases hx with rfl | rfl
    · exact h _ hy
    · exact trivial
  · simp only [h1, if_false, List.mem_cons, List.not_mem_nil, or_false] at hx
    subst hx
    exact h _ hy
theorem zL_entry (G : zG) (as : List zV) (nL : Nat) (ls : List zV) (hr : ∀ x ∈ as, zR x) (hle : (zSl as).length ≤ nL) (hls : zSl as ++ List.replicate (nL - (zSl as).length) zU = ls) : zL G ((lg_sl (as.map (zE G)) ++ List.replicate (nL - (lg_sl (as.map (zE G))).length) Slot.unset).toArray) nL ls := by
  have hE := lv_entry (as.map (zE G)) (n := nL) (by rw [zSl_len]; exact hle)
  refine ⟨hE.1, hE.2.1, fun i x hi hx => ?_, ?_⟩
  · rw [← hls] at hi
    by_cases hlt : i < (zSl as).length
    · rw [List.getElem?_append_left hlt] at hi
      have h2 := zSl_args G as 0 i x hi hx
      rw [Nat.zero_add] at h2
      exact ⟨hE.2.2 _ h2, zSl_r as hr i x hi⟩
    · rw [List.getElem?_append_right (by omega)] at hi
      have := List.eq_of_mem_replicate (List.mem_of_getElem? hi)
      subst this
      exact absurd rfl hx
  · rw [← hls, List.length_append, List.length_replicate]
    omega
set_option maxHeartbeats 1000000 in
/-- a method is proved by its run from the entry -/
theorem z_enter {M : zM} {k : Nat} {b : Nat × Nat} {as : List zV} {n : Nat} {h : zHp} {Q : Option zV → Nat → zHp → Prop} (ls : List zV) (hp : plainName M.1.cls = true) (hle : (zSl as).length ≤ M.2.2.1) (hls : zSl as ++ List.replicate (M.2.2.1 - (zSl as).length) zU = ls)
    (body : (∀ x ∈ as, zR x) → zRg n h → zRW M k b 0 ls [] n h Q) : zCall M k b as n h Q := by
  intro l G d hk
  refine Met.ofW (cc := M.2.1) (maxL := M.2.2.1) (ret := M.2.2.2) hp rfl ?_
  intro p e s m args below meth c s₁ B hml hv
  obtain ⟨rfl, hra, hH, hK, hz⟩ := hv
  have hts := atoms_spec (ws := .code M.1 M.2.1 M.2.2.1 M.2.2.2 :: zTb) B.pre
  rw [lg_entry_eq]
  exact body hra hH.2.1 G d b.1 b.2 p l e s m _ below meth c s.heap [] 0 0 _ hk ⟨B.exec, B.bytes, hml, B.returns, B.notSynchronized, findClass_of_methodNamed B.named, (name_of_methodNamed B.named B.method).1, fun w hw => hts w (List.mem_cons_of_mem _ hw), hK⟩ (zL_entry G as _ ls hra hle hls) (fun x hx => by cases hx) hH va_S.rf (by omega) (by omega) hz
theorem zPc_blind (G : zG) (as : List zV) (n : Nat) (h : zHp) : FrameBlind (zPc G as n h) := fun a U g mk hv => ⟨hv.1, hv.2.1, hv.2.2.1, hv.2.2.2.1.calling g mk a, hv.2.2.2.2⟩
/-- behind a call -/
theorem z_back {p : Program} {l : Launch} {e : Env} {R : Room} {s : State} {m : MethodId} {args : Array Value} {below : List Frame} {meth : Method} {c : Code} {H : Heap} {locs : List Loc} {cells slots mc ms : Nat} {Z : State → Prop} {G : zG} {Q' : Option zV → Nat → zHp → Prop} {pc pc' : Nat} {lr : Array Slot} {st0 rest : List Value} {a : Array Value}
    (hr : va_Run p l e R s m args below meth c H locs cells slots mc ms (F0 m pc lr st0) rest (zQC G Q' a) (zAf G)) (hpc : pc + 3 = pc') (hS : va_S (zAf G) s.heap H locs)
    (kk : ∀ (r : Option zV) (n : Nat) (h : zHp) (H1 : Heap) (locs1 : List Loc), (∀ x, r = some x → zR x) → Q' r n h → zH G n h H1 → va_S (zAf G) s.heap H1 locs1 → W p l e R s m args below meth c H1 locs1 (cells + mc) (slots + ms) Z (F0 m pc' lr ((r.map (zE G)).toList ++ rest))) :
    W p l e R s m args below meth c H locs cells slots Z (F0 m pc lr st0) := by
  intro T hT X
  obtain ⟨v, st₀, t, T', L, e0, X', hL, e1, e2, ⟨⟨r, n, h, hv, hrr, hq, hH⟩, hF1, hF2⟩, hgo⟩ := hr T hT X
  cases hv
  have hS' : va_S (zAf G) s.heap T'.heap (locs ++ L) := by
    rw [e1]
    refine ⟨Nat.le_trans hS.1 (by rw [← e0]; exact hF1), fun q h1 h2 => ?_, fun x hx => ?_⟩
    · rw [hF2 q (by rw [e0]; exact Nat.lt_of_lt_of_le h1 hS.1) h2, e0]
      exact hS.2.1 q h1 h2
    · rcases List.mem_append.mp hx with h | h
      · exact hS.2.2 x h
      · exact hL x h
  obtain ⟨t2, a1, b1⟩ := kk r n h T'.heap (locs ++ L) hrr hq (by rw [e1]; exact hH) hS' T' rfl X'
  subst hpc
  exact ⟨t2, hgo t2 a1, b1⟩
-- cells
def zup (h : zHp) (a i : Nat) (v : Int) : zHp := fun a' i' => if a' = a ∧ i' = i then v else h a' i'
theorem zup_at (h : zHp) (a i : Nat) (v : Int) : zup h a i v a i = v := by simp [zup]
theorem zup_ne {h : zHp} {a i : Nat} {v : Int} {a' i' : Nat} (hn : ¬ (a' = a ∧ i' = i)) : zup h a i v a' i' = h a' i' := by simp [zup, hn]
theorem zup_off {h : zHp} {a i : Nat} {v : Int} {a' : Nat} (hn : ¬ a' = a) : zup h a i v a' = h a' := by funext j; simp [zup, hn]
theorem zup_on {h : zHp} {a i : Nat} {v : Int} : zup h a i v a = fun j => if j = i then v else h a j := by funext j; simp [zup]
theorem zWs_len (G : zG) (n : Nat) (h : zHp) : (zWs G n h).length = min n 142 := by simp [zWs]
theorem zWs_at {G : zG} {n : Nat} {h : zHp} {a : Nat} (ha : a < min n 142) : (zWs G n h)[a]? = some (G.1 + a, zN G a (h a)) := by
  simp [zWs, ha]
theorem zWs_set {G : zG} {n : Nat} {h h' : zHp} {a : Nat} (ho : ∀ a', ¬ a' = a → h' a' = h a') : (zWs G n h).set a (G.1 + a, zN G a (h' a)) = zWs G n h' := by
  apply List.ext_getElem?
  intro i
  rw [List.getElem?_set]
  by_cases hi : i < min n 142
  · by_cases ha : a = i
    · subst ha
      rw [if_pos rfl, zWs_len, if_pos hi, zWs_at hi]
    · rw [if_neg ha, zWs_at hi, zWs_at hi, ho i (fun e => ha e.symm)]
  · have e1 : (zWs G n h)[i]? = none := List.getElem?_eq_none (by rw [zWs_len]; omega)
    have e2 : (zWs G n h')[i]? = none := List.getElem?_eq_none (by rw [zWs_len]; omega)
    rw [e1, e2]
    split
    · next ha => subst ha; rw [if_neg (by rw [zWs_len]; exact hi)]
    · rfl
theorem zWs_D (G : zG) (n : Nat) (h : zHp) : va_D (zAf G) (zWs G n h) := by
  refine ⟨fun i j p q hi hj he => ?_, fun i q hi => ?_⟩
  · have h1 : i < min n 142 := by rw [← zWs_len G n h]; exact (List.getElem?_eq_some_iff.mp hi).1
    have h2 : j < min n 142 := by rw [← zWs_len G n h]; exact (List.getElem?_eq_some_iff.mp hj).1
    rw [zWs_at h1] at hi
    rw [zWs_at h2] at hj
    cases hi
    cases hj
    exact Nat.add_left_cancel he
  · have h1 : i < min n 142 := by rw [← zWs_len G n h]; exact (List.getElem?_eq_some_iff.mp hi).1
    rw [zWs_at h1] at hi
    cases hi
    exact Nat.le_add_right _ _
def zKd (ty : FieldType) : Nat := match ty with
  | .long => 1
  | .object _ => 2
  | .array _ => 2
  | _ => 0
def zFl (own : String) (idx ci k : Nat) : Prop := ∃ (C : String) (T : u_T) (N : Nat), zCL[ci]? = some (C, T, N) ∧ k < N ∧ (T k).1 = C ∧ Cond.fieldLink own idx C (T k).2.1 (T k).2.2.1 ∈ zTb
def zCf (ci : Nat) (q : vw_C) : Prop := (∀ w ∈ u_ws q.1 q.2.1 q.2.2, w ∈ zTb) ∧ (∀ k, k < q.2.2 → parseFieldDescriptor (q.2.1 k).2.2.1 = some (zTY ci k)) ∧ (∀ a, a < q.2.2 → ∀ b, b < q.2.2 → a ≠ b → (q.2.1 a).2.1 ≠ (q.2.1 b).2.1) ∧ (∀ a kd sz : Nat, zSH[a]? = some (kd, sz) → kd = ci → sz = q.2.2)
theorem z_szAll : (List.range 142).all (fun a => (List.range 13).all (fun ci => match zSH[a]?, zCL[ci]? with | some (kd, sz), some q => !(kd == ci) || sz == q.2.2 | _, _ => true)) = true := by decide +kernel
theorem z_sz {ci : Nat} {q : vw_C} (hc : zCL[ci]? = some q) : ∀ a kd sz : Nat, zSH[a]? = some (kd, sz) → kd = ci → sz = q.2.2 := by
  intro a kd sz ha hk
  have h1 : a < 142 := (List.getElem?_eq_some_iff.mp ha).1
  have h2 : ci < 13 := (List.getElem?_eq_some_iff.mp hc).1
  have h3 := List.all_eq_true.mp (List.all_eq_true.mp z_szAll a (List.mem_range.mpr h1)) ci (List.mem_range.mpr h2)
  rw [ha, hc] at h3
  subst hk
  simpa using h3
theorem z_lays (C : String) (T : u_T) (N : Nat) (h : ∀ w ∈ u_ws C T N, w ∈ lw_tbl) : ∀ w ∈ u_ws C T N, w ∈ zTb := by
  intro w hw
  refine List.mem_filter.mpr ⟨h w hw, ?_⟩
  obtain ⟨k, -, rfl⟩ := List.mem_map.mp hw
  unfold u_lay
  split <;> rfl
theorem z_cf : ∀ (ci : Nat) (q : vw_C), zCL[ci]? = some q → zCf ci q := by
  intro ci q hq
  have hs := z_sz hq
  match ci, hq, hs with
  | 0, hq, hs => cases hq; exact ⟨z_lays _ _ _ zinX0, tyX0_ok, nmX0, hs⟩
  | 1, hq, hs => cases hq; exact ⟨z_lays _ _ _ zinX1, tyX1_ok, nmX1, hs⟩
  | 2, hq, hs => cases hq; exact ⟨z_lays _ _ _ zinX2, tyX2_ok, nmX2, hs⟩
  | 3, hq, hs => cases hq; exact ⟨z_lays _ _ _ zinX3, tyX3_ok, nmX3, hs⟩
  | 4, hq, hs => cases hq; exact ⟨z_lays _ _ _ zinX4, tyX4_ok, nmX4, hs⟩
  | 5, hq, hs => cases hq; exact ⟨z_lays _ _ _ zinX5, tyX5_ok, nmX5, hs⟩
  | 6, hq, hs => cases hq; exact ⟨z_lays _ _ _ zinX6, tyX6_ok, nmX6, hs⟩
  | 7, hq, hs => cases hq; exact ⟨z_lays _ _ _ zinX7, tyX7_ok, nmX7, hs⟩
  | 8, hq, hs => cases hq; exact ⟨z_lays _ _ _ zinX8, tyX8_ok, nmX8, hs⟩
  | 9, hq, hs => cases hq; exact ⟨z_lays _ _ _ zinX9, tyX9_ok, nmX9, hs⟩
  | 10, hq, hs => cases hq; exact ⟨z_lays _ _ _ zinX10, tyX10_ok, nmX10, hs⟩
  | 11, hq, hs => cases hq; exact ⟨z_lays _ _ _ zinX11, tyX11_ok, nmX11, hs⟩
  | 12, hq, hs => cases hq; exact ⟨z_lays _ _ _ zinX12, tyX12_ok, nmX12, hs⟩
  | ci + 13, hq, hs => exact absurd (List.getElem?_eq_some_iff.mp hq).1 (by simp [zCL])
