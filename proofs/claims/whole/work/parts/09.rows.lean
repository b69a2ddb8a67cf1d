-- a row an instruction (written by wip/tools/gen_rows.py)
def zqi (Q : Int → zHp → Prop) : Option zV → Nat → zHp → Prop := fun r n h => n = 143 ∧ ∃ v, r = some (zI v) ∧ Q v h
def zqj (Q : Int → zHp → Prop) : Option zV → Nat → zHp → Prop := fun r n h => n = 143 ∧ ∃ v, r = some (zJ v) ∧ Q v h
def zqv (Q : zHp → Prop) : Option zV → Nat → zHp → Prop := fun r n h => n = 143 ∧ r = none ∧ Q h
abbrev zCi (M : zM) (k : Nat) (as : List zV) (h : zHp) (Q : Int → zHp → Prop) : Prop := zCall M k (0, 0) as 143 h (zqi Q)
abbrev zCj (M : zM) (k : Nat) (as : List zV) (h : zHp) (Q : Int → zHp → Prop) : Prop := zCall M k (0, 0) as 143 h (zqj Q)
abbrev zCv (M : zM) (k : Nat) (as : List zV) (h : zHp) (Q : zHp → Prop) : Prop := zCall M k (0, 0) as 143 h (zqv Q)
def zIL (M : zM) (pc i pc' : Nat) : Prop := (decode M.2.1 pc = .ok (.iload i, 2) ∧ pc + 2 = pc') ∨ ∃ q : Fin 4, (q : Nat) = i ∧ decode M.2.1 pc = .ok (.iload_n q, 1) ∧ pc + 1 = pc'
def zLL (M : zM) (pc i pc' : Nat) : Prop := (decode M.2.1 pc = .ok (.lload i, 2) ∧ pc + 2 = pc') ∨ ∃ q : Fin 4, (q : Nat) = i ∧ decode M.2.1 pc = .ok (.lload_n q, 1) ∧ pc + 1 = pc'
def zAL (M : zM) (pc i pc' : Nat) : Prop := (decode M.2.1 pc = .ok (.aload i, 2) ∧ pc + 2 = pc') ∨ ∃ q : Fin 4, (q : Nat) = i ∧ decode M.2.1 pc = .ok (.aload_n q, 1) ∧ pc + 1 = pc'
def zIS (M : zM) (pc i pc' : Nat) : Prop := (decode M.2.1 pc = .ok (.istore i, 2) ∧ pc + 2 = pc') ∨ ∃ q : Fin 4, (q : Nat) = i ∧ decode M.2.1 pc = .ok (.istore_n q, 1) ∧ pc + 1 = pc'
def zLS (M : zM) (pc i pc' : Nat) : Prop := (decode M.2.1 pc = .ok (.lstore i, 2) ∧ pc + 2 = pc') ∨ ∃ q : Fin 4, (q : Nat) = i ∧ decode M.2.1 pc = .ok (.lstore_n q, 1) ∧ pc + 1 = pc'
def zAS (M : zM) (pc i pc' : Nat) : Prop := (decode M.2.1 pc = .ok (.astore i, 2) ∧ pc + 2 = pc') ∨ ∃ q : Fin 4, (q : Nat) = i ∧ decode M.2.1 pc = .ok (.astore_n q, 1) ∧ pc + 1 = pc'
def zKI (M : zM) (pc : Nat) (v : Int) (pc' : Nat) : Prop := z32 v ∧ ((decode M.2.1 pc = .ok (.iconst v, 1) ∧ pc + 1 = pc') ∨ (decode M.2.1 pc = .ok (.bipush v, 2) ∧ pc + 2 = pc' ∧ (Int8.ofInt v).toInt32 = Int32.ofInt v) ∨ (decode M.2.1 pc = .ok (.sipush v, 3) ∧ pc + 3 = pc' ∧ (Int16.ofInt v).toInt32 = Int32.ofInt v) ∨ (∃ idx, decode M.2.1 pc = .ok (.ldc idx, 2) ∧ pc + 2 = pc' ∧ Cond.constant M.1.cls idx (Int32.ofInt v) ∈ zTb) ∨ (∃ idx, decode M.2.1 pc = .ok (.ldc_w idx, 3) ∧ pc + 3 = pc' ∧ Cond.constant M.1.cls idx (Int32.ofInt v) ∈ zTb))
def zKJ (M : zM) (pc : Nat) (v : Int) (pc' : Nat) : Prop := z64 v ∧ ((∃ q : Fin 2, decode M.2.1 pc = .ok (.lconst q, 1) ∧ pc + 1 = pc' ∧ Int64.ofNat q = Int64.ofInt v) ∨ (∃ idx, decode M.2.1 pc = .ok (.ldc2_w idx, 3) ∧ pc + 3 = pc' ∧ Cond.constantLong M.1.cls idx (Int64.ofInt v) ∈ zTb))
def zFi (own : String) (idx ci k : Nat) : Prop := zFl own idx ci k ∧ zKd (zTY ci k) = 0
def zFj (own : String) (idx ci k : Nat) : Prop := zFl own idx ci k ∧ zTY ci k = .long
def zFa (own : String) (idx ci k : Nat) : Prop := zFl own idx ci k ∧ zIsR (zTY ci k) = true
def zPi (own : String) (idx ci k : Nat) : Prop := zFl own idx ci k ∧ zTY ci k = .int ∧ zFin ci k = false
def zPz (own : String) (idx ci k : Nat) : Prop := zFl own idx ci k ∧ zTY ci k = .boolean ∧ zFin ci k = false
def zPj (own : String) (idx ci k : Nat) : Prop := zFl own idx ci k ∧ zTY ci k = .long ∧ zFin ci k = false
def zAC (own : String) (idx : Nat) : Prop := Cond.methodLink own idx arraycopyName ∈ zTb
theorem zAC_n : Cond.native arraycopyName ∈ zTb := zTb_mem 689 (by decide +kernel) (by decide +kernel)
theorem zAC_s : Cond.static arraycopyName ∈ zTb := zTb_mem 688 (by decide +kernel) (by decide +kernel)
theorem zAC_i : Cond.initialized "java/lang/System" ∈ zTb := zTb_mem 137 (by decide +kernel) (by decide +kernel)
section
variable {M N : zM} {k kc : Nat} {b : Nat × Nat} {pc pc' idx ci na a sz k0 : Nat} {ls st : List zV} {n : Nat} {h : zHp} {Q : Option zV → Nat → zHp → Prop} {x y v : Int}
theorem z_ild {i : Nat} (hd : zIL M pc i pc') (hi : ls[i]? = some (zI v)) (kk : zRW M k b pc' ls (zI v :: st) n h Q) : zRW M k b pc ls st n h Q := by
  intro G d mc ms p l e s m args below meth c H locs cells slots lr hk C hl hst hH hS hc1 hc2 hz
  obtain ⟨hl1, hl2⟩ := hl.2.2.1 i _ hi (by simp)
  rcases hd with ⟨hdec, rfl⟩ | ⟨q, hq, hdec, rfl⟩
  · refine lv_iload C.1 C.2.1 hdec hl1 ?_
    exact kk G d mc ms p l e s m args below meth c H locs cells slots lr hk C hl (fun q hq => by
      rcases List.mem_cons.mp hq with rfl | hq
      · exact hl2
      · exact hst q (by simp [hq])) hH hS hc1 hc2 hz
  · refine lv_iload_n C.1 C.2.1 hdec hq hl1 ?_
    exact kk G d mc ms p l e s m args below meth c H locs cells slots lr hk C hl (fun q hq => by
      rcases List.mem_cons.mp hq with rfl | hq
      · exact hl2
      · exact hst q (by simp [hq])) hH hS hc1 hc2 hz
theorem z_lld {i : Nat} (hd : zLL M pc i pc') (hi : ls[i]? = some (zJ v)) (kk : zRW M k b pc' ls (zJ v :: st) n h Q) : zRW M k b pc ls st n h Q := by
  intro G d mc ms p l e s m args below meth c H locs cells slots lr hk C hl hst hH hS hc1 hc2 hz
  obtain ⟨hl1, hl2⟩ := hl.2.2.1 i _ hi (by simp)
  rcases hd with ⟨hdec, rfl⟩ | ⟨q, hq, hdec, rfl⟩
  · refine lv_lload C.1 C.2.1 hdec hl1 ?_
    exact kk G d mc ms p l e s m args below meth c H locs cells slots lr hk C hl (fun q hq => by
      rcases List.mem_cons.mp hq with rfl | hq
      · exact hl2
      · exact hst q (by simp [hq])) hH hS hc1 hc2 hz
  · refine lv_lload_n C.1 C.2.1 hdec hq hl1 ?_
    exact kk G d mc ms p l e s m args below meth c H locs cells slots lr hk C hl (fun q hq => by
      rcases List.mem_cons.mp hq with rfl | hq
      · exact hl2
      · exact hst q (by simp [hq])) hH hS hc1 hc2 hz
theorem z_ald {i : Nat} (hd : zAL M pc i pc') (hi : ls[i]? = some (zA a)) (kk : zRW M k b pc' ls (zA a :: st) n h Q) : zRW M k b pc ls st n h Q := by
  intro G d mc ms p l e s m args below meth c H locs cells slots lr hk C hl hst hH hS hc1 hc2 hz
  obtain ⟨hl1, hl2⟩ := hl.2.2.1 i _ hi (by simp)
  rcases hd with ⟨hdec, rfl⟩ | ⟨q, hq, hdec, rfl⟩
  · refine lv_aload C.1 C.2.1 hdec hl1 ?_
    exact kk G d mc ms p l e s m args below meth c H locs cells slots lr hk C hl (fun q hq => by
      rcases List.mem_cons.mp hq with rfl | hq
      · exact trivial
      · exact hst q (by simp [hq])) hH hS hc1 hc2 hz
  · refine lv_aload_n C.1 C.2.1 hdec hq hl1 ?_
    exact kk G d mc ms p l e s m args below meth c H locs cells slots lr hk C hl (fun q hq => by
      rcases List.mem_cons.mp hq with rfl | hq
      · exact trivial
      · exact hst q (by simp [hq])) hH hS hc1 hc2 hz
theorem z_aldT {i : Nat} (hd : zAL M pc i pc') (hi : ls[i]? = some (zT a)) (kk : zRW M k b pc' ls (zT a :: st) n h Q) : zRW M k b pc ls st n h Q := by
  intro G d mc ms p l e s m args below meth c H locs cells slots lr hk C hl hst hH hS hc1 hc2 hz
  obtain ⟨hl1, hl2⟩ := hl.2.2.1 i _ hi (by simp)
  rcases hd with ⟨hdec, rfl⟩ | ⟨q, hq, hdec, rfl⟩
  · refine lv_aload C.1 C.2.1 hdec hl1 ?_
    exact kk G d mc ms p l e s m args below meth c H locs cells slots lr hk C hl (fun q hq => by
      rcases List.mem_cons.mp hq with rfl | hq
      · exact trivial
      · exact hst q (by simp [hq])) hH hS hc1 hc2 hz
  · refine lv_aload_n C.1 C.2.1 hdec hq hl1 ?_
    exact kk G d mc ms p l e s m args below meth c H locs cells slots lr hk C hl (fun q hq => by
      rcases List.mem_cons.mp hq with rfl | hq
      · exact trivial
      · exact hst q (by simp [hq])) hH hS hc1 hc2 hz
theorem z_aldB {i : Nat} (hd : zAL M pc i pc') (hi : ls[i]? = some (zB a)) (kk : zRW M k b pc' ls (zB a :: st) n h Q) : zRW M k b pc ls st n h Q := by
  intro G d mc ms p l e s m args below meth c H locs cells slots lr hk C hl hst hH hS hc1 hc2 hz
  obtain ⟨hl1, hl2⟩ := hl.2.2.1 i _ hi (by simp)
  rcases hd with ⟨hdec, rfl⟩ | ⟨q, hq, hdec, rfl⟩
  · refine lv_aload C.1 C.2.1 hdec hl1 ?_
    exact kk G d mc ms p l e s m args below meth c H locs cells slots lr hk C hl (fun q hq => by
      rcases List.mem_cons.mp hq with rfl | hq
      · exact trivial
      · exact hst q (by simp [hq])) hH hS hc1 hc2 hz
  · refine lv_aload_n C.1 C.2.1 hdec hq hl1 ?_
    exact kk G d mc ms p l e s m args below meth c H locs cells slots lr hk C hl (fun q hq => by
      rcases List.mem_cons.mp hq with rfl | hq
      · exact trivial
      · exact hst q (by simp [hq])) hH hS hc1 hc2 hz
theorem z_aldX {i : Nat} (hd : zAL M pc i pc') (hi : ls[i]? = some (zX)) (kk : zRW M k b pc' ls (zX :: st) n h Q) : zRW M k b pc ls st n h Q := by
  intro G d mc ms p l e s m args below meth c H locs cells slots lr hk C hl hst hH hS hc1 hc2 hz
  obtain ⟨hl1, hl2⟩ := hl.2.2.1 i _ hi (by simp)
  rcases hd with ⟨hdec, rfl⟩ | ⟨q, hq, hdec, rfl⟩
  · refine lv_aload C.1 C.2.1 hdec hl1 ?_
    exact kk G d mc ms p l e s m args below meth c H locs cells slots lr hk C hl (fun q hq => by
      rcases List.mem_cons.mp hq with rfl | hq
      · exact trivial
      · exact hst q (by simp [hq])) hH hS hc1 hc2 hz
  · refine lv_aload_n C.1 C.2.1 hdec hq hl1 ?_
    exact kk G d mc ms p l e s m args below meth c H locs cells slots lr hk C hl (fun q hq => by
      rcases List.mem_cons.mp hq with rfl | hq
      · exact trivial
      · exact hst q (by simp [hq])) hH hS hc1 hc2 hz
def zPs (G : zG) (ls : List zV) : List (Nat × Value) := (List.range ls.length).filterMap (fun i => match ls[i]? with
  | some x => if x.1 = 9 then none else some (i, zE G x)
  | none => none)
theorem zL_has {G : zG} {lr : Array Slot} {nL : Nat} {ls : List zV} (h : zL G lr nL ls) : lv_has lr nL (zPs G ls) := by
  refine ⟨h.1, h.2.1, fun q hq => ?_⟩
  obtain ⟨i, hi, hx⟩ := List.mem_filterMap.mp hq
  cases e : ls[i]? with
  | none => rw [e] at hx; cases hx
  | some x =>
    rw [e] at hx
    by_cases h9 : x.1 = 9
    · simp [h9] at hx
    · simp [h9] at hx
      subst hx
      exact (h.2.2.1 i x e h9).1
theorem zPs_mem {G : zG} {ls : List zV} {i : Nat} {x : zV} (hi : ls[i]? = some x) (h9 : ¬ x.1 = 9) : (i, zE G x) ∈ zPs G ls := by
  refine List.mem_filterMap.mpr ⟨i, List.mem_range.mpr (List.getElem?_eq_some_iff.mp hi).1, ?_⟩
  rw [hi]
  simp [h9]
/-- no long's second half lies at i -/
def zOk (ls : List zV) (i : Nat) : Prop := i = 0 ∨ ∀ x, ls[i - 1]? = some x → ¬ x.1 = 1
theorem zL_set1 {G : zG} {lr lr' : Array Slot} {nL i : Nat} {ls : List zV} {x : zV} (h : zL G lr nL ls) (hi : i < nL) (hok : zOk ls i) (hx : ¬ x.1 = 1) (hr : zR x)
    (h' : lv_has lr' nL ((i, zE G x) :: (zPs G ls).filter (fun q => !(q.1 == i) && !(q.1 + 1 == i && q.2.category == 2)))) : zL G lr' nL (ls.set i x) := by
  refine ⟨h'.1, h'.2.1, fun j y hj h9 => ?_, by rw [List.length_set]; exact h.2.2.2⟩
  rw [List.getElem?_set] at hj
  by_cases e : i = j
  · subst e
    rw [if_pos rfl] at hj
    split at hj
    · cases hj
      exact ⟨h'.2.2 _ List.mem_cons_self, hr⟩
    · cases hj
  · rw [if_neg e] at hj
    refine ⟨h'.2.2 (j, zE G y) (List.mem_cons_of_mem _ (List.mem_filter.mpr ⟨zPs_mem hj h9, ?_⟩)), (h.2.2.1 j y hj h9).2⟩
    have e1 : (j == i) = false := by simpa using fun q => e q.symm
    simp only [e1, Bool.not_false, Bool.true_and]
    by_cases e2 : j + 1 = i
    · rcases hok with h0 | h0
      · omega
      · have := h0 y (by rw [show i - 1 = j by omega]; exact hj)
        simp [zE_cat, this]
    · simp [e2]
theorem zL_set2 {G : zG} {lr lr' : Array Slot} {nL i : Nat} {ls : List zV} {x : zV} (h : zL G lr nL ls) (hi : i + 1 < nL) (hok : zOk ls i) (hr : zR x)
    (h' : lv_has lr' nL ((i, zE G x) :: (zPs G ls).filter (fun q => !(q.1 == i) && (!(q.1 == i + 1) && !(q.1 + 1 == i && q.2.category == 2))))) : zL G lr' nL ((ls.set i x).set (i + 1) zU) := by
  refine ⟨h'.1, h'.2.1, fun j y hj h9 => ?_, by rw [List.length_set, List.length_set]; exact h.2.2.2⟩
  rw [List.getElem?_set] at hj
  by_cases e' : i + 1 = j
  · rw [if_pos e'] at hj
    split at hj
    · cases hj
      exact absurd rfl h9
    · cases hj
  rw [if_neg e', List.getElem?_set] at hj
  by_cases e : i = j
  · subst e
    rw [if_pos rfl] at hj
    split at hj
    · cases hj
      exact ⟨h'.2.2 _ List.mem_cons_self, hr⟩
    · cases hj
  · rw [if_neg e] at hj
    refine ⟨h'.2.2 (j, zE G y) (List.mem_cons_of_mem _ (List.mem_filter.mpr ⟨zPs_mem hj h9, ?_⟩)), (h.2.2.1 j y hj h9).2⟩
    have e1 : (j == i) = false := by simpa using fun q => e q.symm
    have e3 : (j == i + 1) = false := by simpa using fun q => e' q.symm
    simp only [e1, e3, Bool.not_false, Bool.true_and]
    by_cases e2 : j + 1 = i
    · rcases hok with h0 | h0
      · omega
      · have := h0 y (by rw [show i - 1 = j by omega]; exact hj)
        simp [zE_cat, this]
    · simp [e2]
/-- what is known of a local may be forgotten -/
theorem z_fg (i : Nat) (kk : zRW M k b pc (ls.set i zU) st n h Q) : zRW M k b pc ls st n h Q := by
  intro G d mc ms p l e s m args below meth c H locs cells slots lr hk C hl hst hH hS hc1 hc2 hz
  refine kk G d mc ms p l e s m args below meth c H locs cells slots lr hk C ⟨hl.1, hl.2.1, fun j y hj h9 => ?_, by rw [List.length_set]; exact hl.2.2.2⟩ hst hH hS hc1 hc2 hz
  rw [List.getElem?_set] at hj
  by_cases e : i = j
  · rw [if_pos e] at hj
    split at hj
    · cases hj
      exact absurd rfl h9
    · cases hj
  · rw [if_neg e] at hj
    exact hl.2.2.1 j y hj h9
theorem z_ist {i : Nat} (hd : zIS M pc i pc') (hi : i < ls.length) (hok : zOk ls i) (kk : zRW M k b pc' (ls.set i (zI v)) st n h Q) : zRW M k b pc ls (zI v :: st) n h Q := by
  intro G d mc ms p l e s m args below meth c H locs cells slots lr hk C hl hst hH hS hc1 hc2 hz
  have hi' : i < M.2.2.1 := by rw [← hl.2.2.2]; exact hi
  have hst' : ∀ x ∈ st, zR x := fun x hx => hst x (List.mem_cons_of_mem _ hx)
  rcases hd with ⟨hdec, rfl⟩ | ⟨q, hq, hdec, rfl⟩
  · exact lv_istore C.1 C.2.1 hdec (zL_has hl) hi' rfl (fun lr' hl' => kk G d mc ms p l e s m args below meth c H locs cells slots lr' hk C (zL_set1 hl hi' hok (by simp) (hst _ List.mem_cons_self) hl') hst' hH hS hc1 hc2 hz)
  · exact lv_istore_n C.1 C.2.1 hdec hq (zL_has hl) hi' rfl (fun lr' hl' => kk G d mc ms p l e s m args below meth c H locs cells slots lr' hk C (zL_set1 hl hi' hok (by simp) (hst _ List.mem_cons_self) hl') hst' hH hS hc1 hc2 hz)
theorem z_ast {i : Nat} (hd : zAS M pc i pc') (hi : i < ls.length) (hok : zOk ls i) (kk : zRW M k b pc' (ls.set i (zA a)) st n h Q) : zRW M k b pc ls (zA a :: st) n h Q := by
  intro G d mc ms p l e s m args below meth c H locs cells slots lr hk C hl hst hH hS hc1 hc2 hz
  have hi' : i < M.2.2.1 := by rw [← hl.2.2.2]; exact hi
  have hst' : ∀ x ∈ st, zR x := fun x hx => hst x (List.mem_cons_of_mem _ hx)
  rcases hd with ⟨hdec, rfl⟩ | ⟨q, hq, hdec, rfl⟩
  · exact lv_astore C.1 C.2.1 hdec (zL_has hl) hi' rfl (fun lr' hl' => kk G d mc ms p l e s m args below meth c H locs cells slots lr' hk C (zL_set1 hl hi' hok (by simp) (hst _ List.mem_cons_self) hl') hst' hH hS hc1 hc2 hz)
  · exact lv_astore_n C.1 C.2.1 hdec hq (zL_has hl) hi' rfl (fun lr' hl' => kk G d mc ms p l e s m args below meth c H locs cells slots lr' hk C (zL_set1 hl hi' hok (by simp) (hst _ List.mem_cons_self) hl') hst' hH hS hc1 hc2 hz)
theorem z_lst {i : Nat} (hd : zLS M pc i pc') (hi : i + 1 < ls.length) (hok : zOk ls i) (kk : zRW M k b pc' ((ls.set i (zJ v)).set (i + 1) zU) st n h Q) : zRW M k b pc ls (zJ v :: st) n h Q := by
  intro G d mc ms p l e s m args below meth c H locs cells slots lr hk C hl hst hH hS hc1 hc2 hz
  have hi' : i + 1 < M.2.2.1 := by rw [← hl.2.2.2]; exact hi
  have hst' : ∀ x ∈ st, zR x := fun x hx => hst x (List.mem_cons_of_mem _ hx)
  rcases hd with ⟨hdec, rfl⟩ | ⟨q, hq, hdec, rfl⟩
  · exact lv_lstore C.1 C.2.1 hdec (zL_has hl) hi' rfl (fun lr' hl' => kk G d mc ms p l e s m args below meth c H locs cells slots lr' hk C (zL_set2 hl hi' hok (hst _ List.mem_cons_self) hl') hst' hH hS hc1 hc2 hz)
  · exact lv_lstore_n C.1 C.2.1 hdec hq (zL_has hl) hi' rfl (fun lr' hl' => kk G d mc ms p l e s m args below meth c H locs cells slots lr' hk C (zL_set2 hl hi' hok (hst _ List.mem_cons_self) hl') hst' hH hS hc1 hc2 hz)
theorem z_inc {i : Nat} {q : Int} (hd : zDC M pc (.iinc i q) 3 pc') (hi : ls[i]? = some (zI v)) (hok : zOk ls i) (kk : zRW M k b pc' (ls.set i (zI (zw (v + q)))) st n h Q) : zRW M k b pc ls st n h Q := by
  intro G d mc ms p l e s m args below meth c H locs cells slots lr hk C hl hst hH hS hc1 hc2 hz
  have hi' : i < M.2.2.1 := by rw [← hl.2.2.2]; exact (List.getElem?_eq_some_iff.mp hi).1
  obtain ⟨hdec, rfl⟩ := hd
  obtain ⟨j, hj⟩ := List.mem_iff_getElem?.mp (zPs_mem (G := G) hi (by simp))
  exact lv_iinc C.1 C.2.1 hdec (zL_has hl) hj (v := Int32.ofInt (zw (v + q))) (by rw [zw_of, Int32.ofInt_add]) hi' rfl (fun lr' hl' => kk G d mc ms p l e s m args below meth c H locs cells slots lr' hk C (zL_set1 hl hi' hok (by simp) (zw_r _) hl') hst hH hS hc1 hc2 hz)
theorem z_il0 (hd : zIL M pc 0 pc') (kk : zRW M k b pc' (zI v :: ls) (zI v :: st) n h Q) : zRW M k b pc (zI v :: ls) st n h Q := z_ild hd rfl kk
theorem z_al0 (hd : zAL M pc 0 pc') (kk : zRW M k b pc' (zA a :: ls) (zA a :: st) n h Q) : zRW M k b pc (zA a :: ls) st n h Q := z_ald hd rfl kk
theorem z_ll0 (hd : zLL M pc 0 pc') (kk : zRW M k b pc' (zJ v :: ls) (zJ v :: st) n h Q) : zRW M k b pc (zJ v :: ls) st n h Q := z_lld hd rfl kk
theorem z_is0 {w : zV} (hd : zIS M pc 0 pc') (kk : zRW M k b pc' (zI v :: ls) st n h Q) : zRW M k b pc (w :: ls) (zI v :: st) n h Q := z_ist hd (by simp) (Or.inl rfl) kk
theorem z_as0 {w : zV} (hd : zAS M pc 0 pc') (kk : zRW M k b pc' (zA a :: ls) st n h Q) : zRW M k b pc (w :: ls) (zA a :: st) n h Q := z_ast hd (by simp) (Or.inl rfl) kk
theorem z_ls0 {w w' : zV} (hd : zLS M pc 0 pc') (kk : zRW M k b pc' (zJ v :: zU :: ls) st n h Q) : zRW M k b pc (w :: w' :: ls) (zJ v :: st) n h Q := z_lst hd (by simp) (Or.inl rfl) kk
theorem z_inc0 {q : Int} (hd : zDC M pc (.iinc 0 q) 3 pc') (kk : zRW M k b pc' (zI (zw (v + q)) :: ls) st n h Q) : zRW M k b pc (zI v :: ls) st n h Q := z_inc hd rfl (Or.inl rfl) kk
theorem z_fg0 {w : zV} (kk : zRW M k b pc (zU :: ls) st n h Q) : zRW M k b pc (w :: ls) st n h Q := z_fg 0 kk
theorem z_il1 {x0 : zV} (hd : zIL M pc 1 pc') (kk : zRW M k b pc' (x0 :: zI v :: ls) (zI v :: st) n h Q) : zRW M k b pc (x0 :: zI v :: ls) st n h Q := z_ild hd rfl kk
theorem z_al1 {x0 : zV} (hd : zAL M pc 1 pc') (kk : zRW M k b pc' (x0 :: zA a :: ls) (zA a :: st) n h Q) : zRW M k b pc (x0 :: zA a :: ls) st n h Q := z_ald hd rfl kk
theorem z_ll1 {x0 : zV} (hd : zLL M pc 1 pc') (kk : zRW M k b pc' (x0 :: zJ v :: ls) (zJ v :: st) n h Q) : zRW M k b pc (x0 :: zJ v :: ls) st n h Q := z_lld hd rfl kk
theorem z_is1 {x0 : zV} {w : zV} (hd : zIS M pc 1 pc') (hp : ¬ x0.1 = 1) (kk : zRW M k b pc' (x0 :: zI v :: ls) st n h Q) : zRW M k b pc (x0 :: w :: ls) (zI v :: st) n h Q := z_ist hd (by simp) (Or.inr (fun q hq => by cases hq; exact hp)) kk
theorem z_as1 {x0 : zV} {w : zV} (hd : zAS M pc 1 pc') (hp : ¬ x0.1 = 1) (kk : zRW M k b pc' (x0 :: zA a :: ls) st n h Q) : zRW M k b pc (x0 :: w :: ls) (zA a :: st) n h Q := z_ast hd (by simp) (Or.inr (fun q hq => by cases hq; exact hp)) kk
theorem z_ls1 {x0 : zV} {w w' : zV} (hd : zLS M pc 1 pc') (hp : ¬ x0.1 = 1) (kk : zRW M k b pc' (x0 :: zJ v :: zU :: ls) st n h Q) : zRW M k b pc (x0 :: w :: w' :: ls) (zJ v :: st) n h Q := z_lst hd (by simp) (Or.inr (fun q hq => by cases hq; exact hp)) kk
theorem z_inc1 {x0 : zV} {q : Int} (hd : zDC M pc (.iinc 1 q) 3 pc') (hp : ¬ x0.1 = 1) (kk : zRW M k b pc' (x0 :: zI (zw (v + q)) :: ls) st n h Q) : zRW M k b pc (x0 :: zI v :: ls) st n h Q := z_inc hd rfl (Or.inr (fun q hq => by cases hq; exact hp)) kk
theorem z_fg1 {x0 : zV} {w : zV} (kk : zRW M k b pc (x0 :: zU :: ls) st n h Q) : zRW M k b pc (x0 :: w :: ls) st n h Q := z_fg 1 kk
theorem z_il2 {x0 x1 : zV} (hd : zIL M pc 2 pc') (kk : zRW M k b pc' (x0 :: x1 :: zI v :: ls) (zI v :: st) n h Q) : zRW M k b pc (x0 :: x1 :: zI v :: ls) st n h Q := z_ild hd rfl kk
theorem z_al2 {x0 x1 : zV} (hd : zAL M pc 2 pc') (kk : zRW M k b pc' (x0 :: x1 :: zA a :: ls) (zA a :: st) n h Q) : zRW M k b pc (x0 :: x1 :: zA a :: ls) st n h Q := z_ald hd rfl kk
theorem z_ll2 {x0 x1 : zV} (hd : zLL M pc 2 pc') (kk : zRW M k b pc' (x0 :: x1 :: zJ v :: ls) (zJ v :: st) n h Q) : zRW M k b pc (x0 :: x1 :: zJ v :: ls) st n h Q := z_lld hd rfl kk
theorem z_is2 {x0 x1 : zV} {w : zV} (hd : zIS M pc 2 pc') (hp : ¬ x1.1 = 1) (kk : zRW M k b pc' (x0 :: x1 :: zI v :: ls) st n h Q) : zRW M k b pc (x0 :: x1 :: w :: ls) (zI v :: st) n h Q := z_ist hd (by simp) (Or.inr (fun q hq => by cases hq; exact hp)) kk
theorem z_as2 {x0 x1 : zV} {w : zV} (hd : zAS M pc 2 pc') (hp : ¬ x1.1 = 1) (kk : zRW M k b pc' (x0 :: x1 :: zA a :: ls) st n h Q) : zRW M k b pc (x0 :: x1 :: w :: ls) (zA a :: st) n h Q := z_ast hd (by simp) (Or.inr (fun q hq => by cases hq; exact hp)) kk
theorem z_ls2 {x0 x1 : zV} {w w' : zV} (hd : zLS M pc 2 pc') (hp : ¬ x1.1 = 1) (kk : zRW M k b pc' (x0 :: x1 :: zJ v :: zU :: ls) st n h Q) : zRW M k b pc (x0 :: x1 :: w :: w' :: ls) (zJ v :: st) n h Q := z_lst hd (by simp) (Or.inr (fun q hq => by cases hq; exact hp)) kk
theorem z_inc2 {x0 x1 : zV} {q : Int} (hd : zDC M pc (.iinc 2 q) 3 pc') (hp : ¬ x1.1 = 1) (kk : zRW M k b pc' (x0 :: x1 :: zI (zw (v + q)) :: ls) st n h Q) : zRW M k b pc (x0 :: x1 :: zI v :: ls) st n h Q := z_inc hd rfl (Or.inr (fun q hq => by cases hq; exact hp)) kk
theorem z_fg2 {x0 x1 : zV} {w : zV} (kk : zRW M k b pc (x0 :: x1 :: zU :: ls) st n h Q) : zRW M k b pc (x0 :: x1 :: w :: ls) st n h Q := z_fg 2 kk
theorem z_il3 {x0 x1 x2 : zV} (hd : zIL M pc 3 pc') (kk : zRW M k b pc' (x0 :: x1 :: x2 :: zI v :: ls) (zI v :: st) n h Q) : zRW M k b pc (x0 :: x1 :: x2 :: zI v :: ls) st n h Q := z_ild hd rfl kk
theorem z_al3 {x0 x1 x2 : zV} (hd : zAL M pc 3 pc') (kk : zRW M k b pc' (x0 :: x1 :: x2 :: zA a :: ls) (zA a :: st) n h Q) : zRW M k b pc (x0 :: x1 :: x2 :: zA a :: ls) st n h Q := z_ald hd rfl kk
theorem z_ll3 {x0 x1 x2 : zV} (hd : zLL M pc 3 pc') (kk : zRW M k b pc' (x0 :: x1 :: x2 :: zJ v :: ls) (zJ v :: st) n h Q) : zRW M k b pc (x0 :: x1 :: x2 :: zJ v :: ls) st n h Q := z_lld hd rfl kk
theorem z_is3 {x0 x1 x2 : zV} {w : zV} (hd : zIS M pc 3 pc') (hp : ¬ x2.1 = 1) (kk : zRW M k b pc' (x0 :: x1 :: x2 :: zI v :: ls) st n h Q) : zRW M k b pc (x0 :: x1 :: x2 :: w :: ls) (zI v :: st) n h Q := z_ist hd (by simp) (Or.inr (fun q hq => by cases hq; exact hp)) kk
theorem z_as3 {x0 x1 x2 : zV} {w : zV} (hd : zAS M pc 3 pc') (hp : ¬ x2.1 = 1) (kk : zRW M k b pc' (x0 :: x1 :: x2 :: zA a :: ls) st n h Q) : zRW M k b pc (x0 :: x1 :: x2 :: w :: ls) (zA a :: st) n h Q := z_ast hd (by simp) (Or.inr (fun q hq => by cases hq; exact hp)) kk
theorem z_ls3 {x0 x1 x2 : zV} {w w' : zV} (hd : zLS M pc 3 pc') (hp : ¬ x2.1 = 1) (kk : zRW M k b pc' (x0 :: x1 :: x2 :: zJ v :: zU :: ls) st n h Q) : zRW M k b pc (x0 :: x1 :: x2 :: w :: w' :: ls) (zJ v :: st) n h Q := z_lst hd (by simp) (Or.inr (fun q hq => by cases hq; exact hp)) kk
theorem z_inc3 {x0 x1 x2 : zV} {q : Int} (hd : zDC M pc (.iinc 3 q) 3 pc') (hp : ¬ x2.1 = 1) (kk : zRW M k b pc' (x0 :: x1 :: x2 :: zI (zw (v + q)) :: ls) st n h Q) : zRW M k b pc (x0 :: x1 :: x2 :: zI v :: ls) st n h Q := z_inc hd rfl (Or.inr (fun q hq => by cases hq; exact hp)) kk
theorem z_fg3 {x0 x1 x2 : zV} {w : zV} (kk : zRW M k b pc (x0 :: x1 :: x2 :: zU :: ls) st n h Q) : zRW M k b pc (x0 :: x1 :: x2 :: w :: ls) st n h Q := z_fg 3 kk
theorem z_il4 {x0 x1 x2 x3 : zV} (hd : zIL M pc 4 pc') (kk : zRW M k b pc' (x0 :: x1 :: x2 :: x3 :: zI v :: ls) (zI v :: st) n h Q) : zRW M k b pc (x0 :: x1 :: x2 :: x3 :: zI v :: ls) st n h Q := z_ild hd rfl kk
theorem z_al4 {x0 x1 x2 x3 : zV} (hd : zAL M pc 4 pc') (kk : zRW M k b pc' (x0 :: x1 :: x2 :: x3 :: zA a :: ls) (zA a :: st) n h Q) : zRW M k b pc (x0 :: x1 :: x2 :: x3 :: zA a :: ls) st n h Q := z_ald hd rfl kk
theorem z_ll4 {x0 x1 x2 x3 : zV} (hd : zLL M pc 4 pc') (kk : zRW M k b pc' (x0 :: x1 :: x2 :: x3 :: zJ v :: ls) (zJ v :: st) n h Q) : zRW M k b pc (x0 :: x1 :: x2 :: x3 :: zJ v :: ls) st n h Q := z_lld hd rfl kk
theorem z_is4 {x0 x1 x2 x3 : zV} {w : zV} (hd : zIS M pc 4 pc') (hp : ¬ x3.1 = 1) (kk : zRW M k b pc' (x0 :: x1 :: x2 :: x3 :: zI v :: ls) st n h Q) : zRW M k b pc (x0 :: x1 :: x2 :: x3 :: w :: ls) (zI v :: st) n h Q := z_ist hd (by simp) (Or.inr (fun q hq => by cases hq; exact hp)) kk
theorem z_as4 {x0 x1 x2 x3 : zV} {w : zV} (hd : zAS M pc 4 pc') (hp : ¬ x3.1 = 1) (kk : zRW M k b pc' (x0 :: x1 :: x2 :: x3 :: zA a :: ls) st n h Q) : zRW M k b pc (x0 :: x1 :: x2 :: x3 :: w :: ls) (zA a :: st) n h Q := z_ast hd (by simp) (Or.inr (fun q hq => by cases hq; exact hp)) kk
theorem z_ls4 {x0 x1 x2 x3 : zV} {w w' : zV} (hd : zLS M pc 4 pc') (hp : ¬ x3.1 = 1) (kk : zRW M k b pc' (x0 :: x1 :: x2 :: x3 :: zJ v :: zU :: ls) st n h Q) : zRW M k b pc (x0 :: x1 :: x2 :: x3 :: w :: w' :: ls) (zJ v :: st) n h Q := z_lst hd (by simp) (Or.inr (fun q hq => by cases hq; exact hp)) kk
theorem z_inc4 {x0 x1 x2 x3 : zV} {q : Int} (hd : zDC M pc (.iinc 4 q) 3 pc') (hp : ¬ x3.1 = 1) (kk : zRW M k b pc' (x0 :: x1 :: x2 :: x3 :: zI (zw (v + q)) :: ls) st n h Q) : zRW M k b pc (x0 :: x1 :: x2 :: x3 :: zI v :: ls) st n h Q := z_inc hd rfl (Or.inr (fun q hq => by cases hq; exact hp)) kk
theorem z_fg4 {x0 x1 x2 x3 : zV} {w : zV} (kk : zRW M k b pc (x0 :: x1 :: x2 :: x3 :: zU :: ls) st n h Q) : zRW M k b pc (x0 :: x1 :: x2 :: x3 :: w :: ls) st n h Q := z_fg 4 kk
theorem z_il5 {x0 x1 x2 x3 x4 : zV} (hd : zIL M pc 5 pc') (kk : zRW M k b pc' (x0 :: x1 :: x2 :: x3 :: x4 :: zI v :: ls) (zI v :: st) n h Q) : zRW M k b pc (x0 :: x1 :: x2 :: x3 :: x4 :: zI v :: ls) st n h Q := z_ild hd rfl kk
theorem z_al5 {x0 x1 x2 x3 x4 : zV} (hd : zAL M pc 5 pc') (kk : zRW M k b pc' (x0 :: x1 :: x2 :: x3 :: x4 :: zA a :: ls) (zA a :: st) n h Q) : zRW M k b pc (x0 :: x1 :: x2 :: x3 :: x4 :: zA a :: ls) st n h Q := z_ald hd rfl kk
theorem z_ll5 {x0 x1 x2 x3 x4 : zV} (hd : zLL M pc 5 pc') (kk : zRW M k b pc' (x0 :: x1 :: x2 :: x3 :: x4 :: zJ v :: ls) (zJ v :: st) n h Q) : zRW M k b pc (x0 :: x1 :: x2 :: x3 :: x4 :: zJ v :: ls) st n h Q := z_lld hd rfl kk
theorem z_is5 {x0 x1 x2 x3 x4 : zV} {w : zV} (hd : zIS M pc 5 pc') (hp : ¬ x4.1 = 1) (kk : zRW M k b pc' (x0 :: x1 :: x2 :: x3 :: x4 :: zI v :: ls) st n h Q) : zRW M k b pc (x0 :: x1 :: x2 :: x3 :: x4 :: w :: ls) (zI v :: st) n h Q := z_ist hd (by simp) (Or.inr (fun q hq => by cases hq; exact hp)) kk
theorem z_as5 {x0 x1 x2 x3 x4 : zV} {w : zV} (hd : zAS M pc 5 pc') (hp : ¬ x4.1 = 1) (kk : zRW M k b pc' (x0 :: x1 :: x2 :: x3 :: x4 :: zA a :: ls) st n h Q) : zRW M k b pc (x0 :: x1 :: x2 :: x3 :: x4 :: w :: ls) (zA a :: st) n h Q := z_ast hd (by simp) (Or.inr (fun q hq => by cases hq; exact hp)) kk
theorem z_ls5 {x0 x1 x2 x3 x4 : zV} {w w' : zV} (hd : zLS M pc 5 pc') (hp : ¬ x4.1 = 1) (kk : zRW M k b pc' (x0 :: x1 :: x2 :: x3 :: x4 :: zJ v :: zU :: ls) st n h Q) : zRW M k b pc (x0 :: x1 :: x2 :: x3 :: x4 :: w :: w' :: ls) (zJ v :: st) n h Q := z_lst hd (by simp) (Or.inr (fun q hq => by cases hq; exact hp)) kk
theorem z_inc5 {x0 x1 x2 x3 x4 : zV} {q : Int} (hd : zDC M pc (.iinc 5 q) 3 pc') (hp : ¬ x4.1 = 1) (kk : zRW M k b pc' (x0 :: x1 :: x2 :: x3 :: x4 :: zI (zw (v + q)) :: ls) st n h Q) : zRW M k b pc (x0 :: x1 :: x2 :: x3 :: x4 :: zI v :: ls) st n h Q := z_inc hd rfl (Or.inr (fun q hq => by cases hq; exact hp)) kk
theorem z_fg5 {x0 x1 x2 x3 x4 : zV} {w : zV} (kk : zRW M k b pc (x0 :: x1 :: x2 :: x3 :: x4 :: zU :: ls) st n h Q) : zRW M k b pc (x0 :: x1 :: x2 :: x3 :: x4 :: w :: ls) st n h Q := z_fg 5 kk
theorem z_il6 {x0 x1 x2 x3 x4 x5 : zV} (hd : zIL M pc 6 pc') (kk : zRW M k b pc' (x0 :: x1 :: x2 :: x3 :: x4 :: x5 :: zI v :: ls) (zI v :: st) n h Q) : zRW M k b pc (x0 :: x1 :: x2 :: x3 :: x4 :: x5 :: zI v :: ls) st n h Q := z_ild hd rfl kk
theorem z_al6 {x0 x1 x2 x3 x4 x5 : zV} (hd : zAL M pc 6 pc') (kk : zRW M k b pc' (x0 :: x1 :: x2 :: x3 :: x4 :: x5 :: zA a :: ls) (zA a :: st) n h Q) : zRW M k b pc (x0 :: x1 :: x2 :: x3 :: x4 :: x5 :: zA a :: ls) st n h Q := z_ald hd rfl kk
theorem z_ll6 {x0 x1 x2 x3 x4 x5 : zV} (hd : zLL M pc 6 pc') (kk : zRW M k b pc' (x0 :: x1 :: x2 :: x3 :: x4 :: x5 :: zJ v :: ls) (zJ v :: st) n h Q) : zRW M k b pc (x0 :: x1 :: x2 :: x3 :: x4 :: x5 :: zJ v :: ls) st n h Q := z_lld hd rfl kk
theorem z_is6 {x0 x1 x2 x3 x4 x5 : zV} {w : zV} (hd : zIS M pc 6 pc') (hp : ¬ x5.1 = 1) (kk : zRW M k b pc' (x0 :: x1 :: x2 :: x3 :: x4 :: x5 :: zI v :: ls) st n h Q) : zRW M k b pc (x0 :: x1 :: x2 :: x3 :: x4 :: x5 :: w :: ls) (zI v :: st) n h Q := z_ist hd (by simp) (Or.inr (fun q hq => by cases hq; exact hp)) kk
theorem z_as6 {x0 x1 x2 x3 x4 x5 : zV} {w : zV} (hd : zAS M pc 6 pc') (hp : ¬ x5.1 = 1) (kk : zRW M k b pc' (x0 :: x1 :: x2 :: x3 :: x4 :: x5 :: zA a :: ls) st n h Q) : zRW M k b pc (x0 :: x1 :: x2 :: x3 :: x4 :: x5 :: w :: ls) (zA a :: st) n h Q := z_ast hd (by simp) (Or.inr (fun q hq => by cases hq; exact hp)) kk
theorem z_ls6 {x0 x1 x2 x3 x4 x5 : zV} {w w' : zV} (hd : zLS M pc 6 pc') (hp : ¬ x5.1 = 1) (kk : zRW M k b pc' (x0 :: x1 :: x2 :: x3 :: x4 :: x5 :: zJ v :: zU :: ls) st n h Q) : zRW M k b pc (x0 :: x1 :: x2 :: x3 :: x4 :: x5 :: w :: w' :: ls) (zJ v :: st) n h Q := z_lst hd (by simp) (Or.inr (fun q hq => by cases hq; exact hp)) kk
theorem z_inc6 {x0 x1 x2 x3 x4 x5 : zV} {q : Int} (hd : zDC M pc (.iinc 6 q) 3 pc') (hp : ¬ x5.1 = 1) (kk : zRW M k b pc' (x0 :: x1 :: x2 :: x3 :: x4 :: x5 :: zI (zw (v + q)) :: ls) st n h Q) : zRW M k b pc (x0 :: x1 :: x2 :: x3 :: x4 :: x5 :: zI v :: ls) st n h Q := z_inc hd rfl (Or.inr (fun q hq => by cases hq; exact hp)) kk
theorem z_fg6 {x0 x1 x2 x3 x4 x5 : zV} {w : zV} (kk : zRW M k b pc (x0 :: x1 :: x2 :: x3 :: x4 :: x5 :: zU :: ls) st n h Q) : zRW M k b pc (x0 :: x1 :: x2 :: x3 :: x4 :: x5 :: w :: ls) st n h Q := z_fg 6 kk
theorem z_il7 {x0 x1 x2 x3 x4 x5 x6 : zV} (hd : zIL M pc 7 pc') (kk : zRW M k b pc' (x0 :: x1 :: x2 :: x3 :: x4 :: x5 :: x6 :: zI v :: ls) (zI v :: st) n h Q) : zRW M k b pc (x0 :: x1 :: x2 :: x3 :: x4 :: x5 :: x6 :: zI v :: ls) st n h Q := z_ild hd rfl kk
theorem z_al7 {x0 x1 x2 x3 x4 x5 x6 : zV} (hd : zAL M pc 7 pc') (kk : zRW M k b pc' (x0 :: x1 :: x2 :: x3 :: x4 :: x5 :: x6 :: zA a :: ls) (zA a :: st) n h Q) : zRW M k b pc (x0 :: x1 :: x2 :: x3 :: x4 :: x5 :: x6 :: zA a :: ls) st n h Q := z_ald hd rfl kk
theorem z_ll7 {x0 x1 x2 x3 x4 x5 x6 : zV} (hd : zLL M pc 7 pc') (kk : zRW M k b pc' (x0 :: x1 :: x2 :: x3 :: x4 :: x5 :: x6 :: zJ v :: ls) (zJ v :: st) n h Q) : zRW M k b pc (x0 :: x1 :: x2 :: x3 :: x4 :: x5 :: x6 :: zJ v :: ls) st n h Q := z_lld hd rfl kk
theorem z_is7 {x0 x1 x2 x3 x4 x5 x6 : zV} {w : zV} (hd : zIS M pc 7 pc') (hp : ¬ x6.1 = 1) (kk : zRW M k b pc' (x0 :: x1 :: x2 :: x3 :: x4 :: x5 :: x6 :: zI v :: ls) st n h Q) : zRW M k b pc (x0 :: x1 :: x2 :: x3 :: x4 :: x5 :: x6 :: w :: ls) (zI v :: st) n h Q := z_ist hd (by simp) (Or.inr (fun q hq => by cases hq; exact hp)) kk
theorem z_as7 {x0 x1 x2 x3 x4 x5 x6 : zV} {w : zV} (hd : zAS M pc 7 pc') (hp : ¬ x6.1 = 1) (kk : zRW M k b pc' (x0 :: x1 :: x2 :: x3 :: x4 :: x5 :: x6 :: zA a :: ls) st n h Q) : zRW M k b pc (x0 :: x1 :: x2 :: x3 :: x4 :: x5 :: x6 :: w :: ls) (zA a :: st) n h Q := z_ast hd (by simp) (Or.inr (fun q hq => by cases hq; exact hp)) kk
theorem z_ls7 {x0 x1 x2 x3 x4 x5 x6 : zV} {w w' : zV} (hd : zLS M pc 7 pc') (hp : ¬ x6.1 = 1) (kk : zRW M k b pc' (x0 :: x1 :: x2 :: x3 :: x4 :: x5 :: x6 :: zJ v :: zU :: ls) st n h Q) : zRW M k b pc (x0 :: x1 :: x2 :: x3 :: x4 :: x5 :: x6 :: w :: w' :: ls) (zJ v :: st) n h Q := z_lst hd (by simp) (Or.inr (fun q hq => by cases hq; exact hp)) kk
theorem z_inc7 {x0 x1 x2 x3 x4 x5 x6 : zV} {q : Int} (hd : zDC M pc (.iinc 7 q) 3 pc') (hp : ¬ x6.1 = 1) (kk : zRW M k b pc' (x0 :: x1 :: x2 :: x3 :: x4 :: x5 :: x6 :: zI (zw (v + q)) :: ls) st n h Q) : zRW M k b pc (x0 :: x1 :: x2 :: x3 :: x4 :: x5 :: x6 :: zI v :: ls) st n h Q := z_inc hd rfl (Or.inr (fun q hq => by cases hq; exact hp)) kk
theorem z_fg7 {x0 x1 x2 x3 x4 x5 x6 : zV} {w : zV} (kk : zRW M k b pc (x0 :: x1 :: x2 :: x3 :: x4 :: x5 :: x6 :: zU :: ls) st n h Q) : zRW M k b pc (x0 :: x1 :: x2 :: x3 :: x4 :: x5 :: x6 :: w :: ls) st n h Q := z_fg 7 kk
theorem z_il8 {x0 x1 x2 x3 x4 x5 x6 x7 : zV} (hd : zIL M pc 8 pc') (kk : zRW M k b pc' (x0 :: x1 :: x2 :: x3 :: x4 :: x5 :: x6 :: x7 :: zI v :: ls) (zI v :: st) n h Q) : zRW M k b pc (x0 :: x1 :: x2 :: x3 :: x4 :: x5 :: x6 :: x7 :: zI v :: ls) st n h Q := z_ild hd rfl kk
theorem z_al8 {x0 x1 x2 x3 x4 x5 x6 x7 : zV} (hd : zAL M pc 8 pc') (kk : zRW M k b pc' (x0 :: x1 :: x2 :: x3 :: x4 :: x5 :: x6 :: x7 :: zA a :: ls) (zA a :: st) n h Q) : zRW M k b pc (x0 :: x1 :: x2 :: x3 :: x4 :: x5 :: x6 :: x7 :: zA a :: ls) st n h Q := z_ald hd rfl kk
theorem z_ll8 {x0 x1 x2 x3 x4 x5 x6 x7 : zV} (hd : zLL M pc 8 pc') (kk : zRW M k b pc' (x0 :: x1 :: x2 :: x3 :: x4 :: x5 :: x6 :: x7 :: zJ v :: ls) (zJ v :: st) n h Q) : zRW M k b pc (x0 :: x1 :: x2 :: x3 :: x4 :: x5 :: x6 :: x7 :: zJ v :: ls) st n h Q := z_lld hd rfl kk
theorem z_is8 {x0 x1 x2 x3 x4 x5 x6 x7 : zV} {w : zV} (hd : zIS M pc 8 pc') (hp : ¬ x7.1 = 1) (kk : zRW M k b pc' (x0 :: x1 :: x2 :: x3 :: x4 :: x5 :: x6 :: x7 :: zI v :: ls) st n h Q) : zRW M k b pc (x0 :: x1 :: x2 :: x3 :: x4 :: x5 :: x6 :: x7 :: w :: ls) (zI v :: st) n h Q := z_ist hd (by simp) (Or.inr (fun q hq => by cases hq; exact hp)) kk
theorem z_as8 {x0 x1 x2 x3 x4 x5 x6 x7 : zV} {w : zV} (hd : zAS M pc 8 pc') (hp : ¬ x7.1 = 1) (kk : zRW M k b pc' (x0 :: x1 :: x2 :: x3 :: x4 :: x5 :: x6 :: x7 :: zA a :: ls) st n h Q) : zRW M k b pc (x0 :: x1 :: x2 :: x3 :: x4 :: x5 :: x6 :: x7 :: w :: ls) (zA a :: st) n h Q := z_ast hd (by simp) (Or.inr (fun q hq => by cases hq; exact hp)) kk
theorem z_ls8 {x0 x1 x2 x3 x4 x5 x6 x7 : zV} {w w' : zV} (hd : zLS M pc 8 pc') (hp : ¬ x7.1 = 1) (kk : zRW M k b pc' (x0 :: x1 :: x2 :: x3 :: x4 :: x5 :: x6 :: x7 :: zJ v :: zU :: ls) st n h Q) : zRW M k b pc (x0 :: x1 :: x2 :: x3 :: x4 :: x5 :: x6 :: x7 :: w :: w' :: ls) (zJ v :: st) n h Q := z_lst hd (by simp) (Or.inr (fun q hq => by cases hq; exact hp)) kk
theorem z_inc8 {x0 x1 x2 x3 x4 x5 x6 x7 : zV} {q : Int} (hd : zDC M pc (.iinc 8 q) 3 pc') (hp : ¬ x7.1 = 1) (kk : zRW M k b pc' (x0 :: x1 :: x2 :: x3 :: x4 :: x5 :: x6 :: x7 :: zI (zw (v + q)) :: ls) st n h Q) : zRW M k b pc (x0 :: x1 :: x2 :: x3 :: x4 :: x5 :: x6 :: x7 :: zI v :: ls) st n h Q := z_inc hd rfl (Or.inr (fun q hq => by cases hq; exact hp)) kk
theorem z_fg8 {x0 x1 x2 x3 x4 x5 x6 x7 : zV} {w : zV} (kk : zRW M k b pc (x0 :: x1 :: x2 :: x3 :: x4 :: x5 :: x6 :: x7 :: zU :: ls) st n h Q) : zRW M k b pc (x0 :: x1 :: x2 :: x3 :: x4 :: x5 :: x6 :: x7 :: w :: ls) st n h Q := z_fg 8 kk
theorem z_il9 {x0 x1 x2 x3 x4 x5 x6 x7 x8 : zV} (hd : zIL M pc 9 pc') (kk : zRW M k b pc' (x0 :: x1 :: x2 :: x3 :: x4 :: x5 :: x6 :: x7 :: x8 :: zI v :: ls) (zI v :: st) n h Q) : zRW M k b pc (x0 :: x1 :: x2 :: x3 :: x4 :: x5 :: x6 :: x7 :: x8 :: zI v :: ls) st n h Q := z_ild hd rfl kk
theorem z_al9 {x0 x1 x2 x3 x4 x5 x6 x7 x8 : zV} (hd : zAL M pc 9 pc') (kk : zRW M k b pc' (x0 :: x1 :: x2 :: x3 :: x4 :: x5 :: x6 :: x7 :: x8 :: zA a :: ls) (zA a :: st) n h Q) : zRW M k b pc (x0 :: x1 :: x2 :: x3 :: x4 :: x5 :: x6 :: x7 :: x8 :: zA a :: ls) st n h Q := z_ald hd rfl kk
theorem z_ll9 {x0 x1 x2 x3 x4 x5 x6 x7 x8 : zV} (hd : zLL M pc 9 pc') (kk : zRW M k b pc' (x0 :: x1 :: x2 :: x3 :: x4 :: x5 :: x6 :: x7 :: x8 :: zJ v :: ls) (zJ v :: st) n h Q) : zRW M k b pc (x0 :: x1 :: x2 :: x3 :: x4 :: x5 :: x6 :: x7 :: x8 :: zJ v :: ls) st n h Q := z_lld hd rfl kk
theorem z_is9 {x0 x1 x2 x3 x4 x5 x6 x7 x8 : zV} {w : zV} (hd : zIS M pc 9 pc') (hp : ¬ x8.1 = 1) (kk : zRW M k b pc' (x0 :: x1 :: x2 :: x3 :: x4 :: x5 :: x6 :: x7 :: x8 :: zI v :: ls) st n h Q) : zRW M k b pc (x0 :: x1 :: x2 :: x3 :: x4 :: x5 :: x6 :: x7 :: x8 :: w :: ls) (zI v :: st) n h Q := z_ist hd (by simp) (Or.inr (fun q hq => by cases hq; exact hp)) kk
theorem z_as9 {x0 x1 x2 x3 x4 x5 x6 x7 x8 : zV} {w : zV} (hd : zAS M pc 9 pc') (hp : ¬ x8.1 = 1) (kk : zRW M k b pc' (x0 :: x1 :: x2 :: x3 :: x4 :: x5 :: x6 :: x7 :: x8 :: zA a :: ls) st n h Q) : zRW M k b pc (x0 :: x1 :: x2 :: x3 :: x4 :: x5 :: x6 :: x7 :: x8 :: w :: ls) (zA a :: st) n h Q := z_ast hd (by simp) (Or.inr (fun q hq => by cases hq; exact hp)) kk
theorem z_ls9 {x0 x1 x2 x3 x4 x5 x6 x7 x8 : zV} {w w' : zV} (hd : zLS M pc 9 pc') (hp : ¬ x8.1 = 1) (kk : zRW M k b pc' (x0 :: x1 :: x2 :: x3 :: x4 :: x5 :: x6 :: x7 :: x8 :: zJ v :: zU :: ls) st n h Q) : zRW M k b pc (x0 :: x1 :: x2 :: x3 :: x4 :: x5 :: x6 :: x7 :: x8 :: w :: w' :: ls) (zJ v :: st) n h Q := z_lst hd (by simp) (Or.inr (fun q hq => by cases hq; exact hp)) kk
theorem z_inc9 {x0 x1 x2 x3 x4 x5 x6 x7 x8 : zV} {q : Int} (hd : zDC M pc (.iinc 9 q) 3 pc') (hp : ¬ x8.1 = 1) (kk : zRW M k b pc' (x0 :: x1 :: x2 :: x3 :: x4 :: x5 :: x6 :: x7 :: x8 :: zI (zw (v + q)) :: ls) st n h Q) : zRW M k b pc (x0 :: x1 :: x2 :: x3 :: x4 :: x5 :: x6 :: x7 :: x8 :: zI v :: ls) st n h Q := z_inc hd rfl (Or.inr (fun q hq => by cases hq; exact hp)) kk
theorem z_fg9 {x0 x1 x2 x3 x4 x5 x6 x7 x8 : zV} {w : zV} (kk : zRW M k b pc (x0 :: x1 :: x2 :: x3 :: x4 :: x5 :: x6 :: x7 :: x8 :: zU :: ls) st n h Q) : zRW M k b pc (x0 :: x1 :: x2 :: x3 :: x4 :: x5 :: x6 :: x7 :: x8 :: w :: ls) st n h Q := z_fg 9 kk
theorem z_il10 {x0 x1 x2 x3 x4 x5 x6 x7 x8 x9 : zV} (hd : zIL M pc 10 pc') (kk : zRW M k b pc' (x0 :: x1 :: x2 :: x3 :: x4 :: x5 :: x6 :: x7 :: x8 :: x9 :: zI v :: ls) (zI v :: st) n h Q) : zRW M k b pc (x0 :: x1 :: x2 :: x3 :: x4 :: x5 :: x6 :: x7 :: x8 :: x9 :: zI v :: ls) st n h Q := z_ild hd rfl kk
theorem z_al10 {x0 x1 x2 x3 x4 x5 x6 x7 x8 x9 : zV} (hd : zAL M pc 10 pc') (kk : zRW M k b pc' (x0 :: x1 :: x2 :: x3 :: x4 :: x5 :: x6 :: x7 :: x8 :: x9 :: zA a :: ls) (zA a :: st) n h Q) : zRW M k b pc (x0 :: x1 :: x2 :: x3 :: x4 :: x5 :: x6 :: x7 :: x8 :: x9 :: zA a :: ls) st n h Q := z_ald hd rfl kk
theorem z_ll10 {x0 x1 x2 x3 x4 x5 x6 x7 x8 x9 : zV} (hd : zLL M pc 10 pc') (kk : zRW M k b pc' (x0 :: x1 :: x2 :: x3 :: x4 :: x5 :: x6 :: x7 :: x8 :: x9 :: zJ v :: ls) (zJ v :: st) n h Q) : zRW M k b pc (x0 :: x1 :: x2 :: x3 :: x4 :: x5 :: x6 :: x7 :: x8 :: x9 :: zJ v :: ls) st n h Q := z_lld hd rfl kk
theorem z_is10 {x0 x1 x2 x3 x4 x5 x6 x7 x8 x9 : zV} {w : zV} (hd : zIS M pc 10 pc') (hp : ¬ x9.1 = 1) (kk : zRW M k b pc' (x0 :: x1 :: x2 :: x3 :: x4 :: x5 :: x6 :: x7 :: x8 :: x9 :: zI v :: ls) st n h Q) : zRW M k b pc (x0 :: x1 :: x2 :: x3 :: x4 :: x5 :: x6 :: x7 :: x8 :: x9 :: w :: ls) (zI v :: st) n h Q := z_ist hd (by simp) (Or.inr (fun q hq => by cases hq; exact hp)) kk
theorem z_as10 {x0 x1 x2 x3 x4 x5 x6 x7 x8 x9 : zV} {w : zV} (hd : zAS M pc 10 pc') (hp : ¬ x9.1 = 1) (kk : zRW M k b pc' (x0 :: x1 :: x2 :: x3 :: x4 :: x5 :: x6 :: x7 :: x8 :: x9 :: zA a :: ls) st n h Q) : zRW M k b pc (x0 :: x1 :: x2 :: x3 :: x4 :: x5 :: x6 :: x7 :: x8 :: x9 :: w :: ls) (zA a :: st) n h Q := z_ast hd (by simp) (Or.inr (fun q hq => by cases hq; exact hp)) kk
theorem z_ls10 {x0 x1 x2 x3 x4 x5 x6 x7 x8 x9 : zV} {w w' : zV} (hd : zLS M pc 10 pc') (hp : ¬ x9.1 = 1) (kk : zRW M k b pc' (x0 :: x1 :: x2 :: x3 :: x4 :: x5 :: x6 :: x7 :: x8 :: x9 :: zJ v :: zU :: ls) st n h Q) : zRW M k b pc (x0 :: x1 :: x2 :: x3 :: x4 :: x5 :: x6 :: x7 :: x8 :: x9 :: w :: w' :: ls) (zJ v :: st) n h Q := z_lst hd (by simp) (Or.inr (fun q hq => by cases hq; exact hp)) kk
theorem z_inc10 {x0 x1 x2 x3 x4 x5 x6 x7 x8 x9 : zV} {q : Int} (hd : zDC M pc (.iinc 10 q) 3 pc') (hp : ¬ x9.1 = 1) (kk : zRW M k b pc' (x0 :: x1 :: x2 :: x3 :: x4 :: x5 :: x6 :: x7 :: x8 :: x9 :: zI (zw (v + q)) :: ls) st n h Q) : zRW M k b pc (x0 :: x1 :: x2 :: x3 :: x4 :: x5 :: x6 :: x7 :: x8 :: x9 :: zI v :: ls) st n h Q := z_inc hd rfl (Or.inr (fun q hq => by cases hq; exact hp)) kk
theorem z_fg10 {x0 x1 x2 x3 x4 x5 x6 x7 x8 x9 : zV} {w : zV} (kk : zRW M k b pc (x0 :: x1 :: x2 :: x3 :: x4 :: x5 :: x6 :: x7 :: x8 :: x9 :: zU :: ls) st n h Q) : zRW M k b pc (x0 :: x1 :: x2 :: x3 :: x4 :: x5 :: x6 :: x7 :: x8 :: x9 :: w :: ls) st n h Q := z_fg 10 kk
theorem z_il11 {x0 x1 x2 x3 x4 x5 x6 x7 x8 x9 x10 : zV} (hd : zIL M pc 11 pc') (kk : zRW M k b pc' (x0 :: x1 :: x2 :: x3 :: x4 :: x5 :: x6 :: x7 :: x8 :: x9 :: x10 :: zI v :: ls) (zI v :: st) n h Q) : zRW M k b pc (x0 :: x1 :: x2 :: x3 :: x4 :: x5 :: x6 :: x7 :: x8 :: x9 :: x10 :: zI v :: ls) st n h Q := z_ild hd rfl kk
theorem z_al11 {x0 x1 x2 x3 x4 x5 x6 x7 x8 x9 x10 : zV} (hd : zAL M pc 11 pc') (kk : zRW M k b pc' (x0 :: x1 :: x2 :: x3 :: x4 :: x5 :: x6 :: x7 :: x8 :: x9 :: x10 :: zA a :: ls) (zA a :: st) n h Q) : zRW M k b pc (x0 :: x1 :: x2 :: x3 :: x4 :: x5 :: x6 :: x7 :: x8 :: x9 :: x10 :: zA a :: ls) st n h Q := z_ald hd rfl kk
theorem z_ll11 {x0 x1 x2 x3 x4 x5 x6 x7 x8 x9 x10 : zV} (hd : zLL M pc 11 pc') (kk : zRW M k b pc' (x0 :: x1 :: x2 :: x3 :: x4 :: x5 :: x6 :: x7 :: x8 :: x9 :: x10 :: zJ v :: ls) (zJ v :: st) n h Q) : zRW M k b pc (x0 :: x1 :: x2 :: x3 :: x4 :: x5 :: x6 :: x7 :: x8 :: x9 :: x10 :: zJ v :: ls) st n h Q := z_lld hd rfl kk
theorem z_is11 {x0 x1 x2 x3 x4 x5 x6 x7 x8 x9 x10 : zV} {w : zV} (hd : zIS M pc 11 pc') (hp : ¬ x10.1 = 1) (kk : zRW M k b pc' (x0 :: x1 :: x2 :: x3 :: x4 :: x5 :: x6 :: x7 :: x8 :: x9 :: x10 :: zI v :: ls) st n h Q) : zRW M k b pc (x0 :: x1 :: x2 :: x3 :: x4 :: x5 :: x6 :: x7 :: x8 :: x9 :: x10 :: w :: ls) (zI v :: st) n h Q := z_ist hd (by simp) (Or.inr (fun q hq => by cases hq; exact hp)) kk
theorem z_as11 {x0 x1 x2 x3 x4 x5 x6 x7 x8 x9 x10 : zV} {w : zV} (hd : zAS M pc 11 pc') (hp : ¬ x10.1 = 1) (kk : zRW M k b pc' (x0 :: x1 :: x2 :: x3 :: x4 :: x5 :: x6 :: x7 :: x8 :: x9 :: x10 :: zA a :: ls) st n h Q) : zRW M k b pc (x0 :: x1 :: x2 :: x3 :: x4 :: x5 :: x6 :: x7 :: x8 :: x9 :: x10 :: w :: ls) (zA a :: st) n h Q := z_ast hd (by simp) (Or.inr (fun q hq => by cases hq; exact hp)) kk
theorem z_ls11 {x0 x1 x2 x3 x4 x5 x6 x7 x8 x9 x10 : zV} {w w' : zV} (hd : zLS M pc 11 pc') (hp : ¬ x10.1 = 1) (kk : zRW M k b pc' (x0 :: x1 :: x2 :: x3 :: x4 :: x5 :: x6 :: x7 :: x8 :: x9 :: x10 :: zJ v :: zU :: ls) st n h Q) : zRW M k b pc (x0 :: x1 :: x2 :: x3 :: x4 :: x5 :: x6 :: x7 :: x8 :: x9 :: x10 :: w :: w' :: ls) (zJ v :: st) n h Q := z_lst hd (by simp) (Or.inr (fun q hq => by cases hq; exact hp)) kk
theorem z_inc11 {x0 x1 x2 x3 x4 x5 x6 x7 x8 x9 x10 : zV} {q : Int} (hd : zDC M pc (.iinc 11 q) 3 pc') (hp : ¬ x10.1 = 1) (kk : zRW M k b pc' (x0 :: x1 :: x2 :: x3 :: x4 :: x5 :: x6 :: x7 :: x8 :: x9 :: x10 :: zI (zw (v + q)) :: ls) st n h Q) : zRW M k b pc (x0 :: x1 :: x2 :: x3 :: x4 :: x5 :: x6 :: x7 :: x8 :: x9 :: x10 :: zI v :: ls) st n h Q := z_inc hd rfl (Or.inr (fun q hq => by cases hq; exact hp)) kk
theorem z_fg11 {x0 x1 x2 x3 x4 x5 x6 x7 x8 x9 x10 : zV} {w : zV} (kk : zRW M k b pc (x0 :: x1 :: x2 :: x3 :: x4 :: x5 :: x6 :: x7 :: x8 :: x9 :: x10 :: zU :: ls) st n h Q) : zRW M k b pc (x0 :: x1 :: x2 :: x3 :: x4 :: x5 :: x6 :: x7 :: x8 :: x9 :: x10 :: w :: ls) st n h Q := z_fg 11 kk
theorem z_il12 {x0 x1 x2 x3 x4 x5 x6 x7 x8 x9 x10 x11 : zV} (hd : zIL M pc 12 pc') (kk : zRW M k b pc' (x0 :: x1 :: x2 :: x3 :: x4 :: x5 :: x6 :: x7 :: x8 :: x9 :: x10 :: x11 :: zI v :: ls) (zI v :: st) n h Q) : zRW M k b pc (x0 :: x1 :: x2 :: x3 :: x4 :: x5 :: x6 :: x7 :: x8 :: x9 :: x10 :: x11 :: zI v :: ls) st n h Q := z_ild hd rfl kk
theorem z_al12 {x0 x1 x2 x3 x4 x5 x6 x7 x8 x9 x10 x11 : zV} (hd : zAL M pc 12 pc') (kk : zRW M k b pc' (x0 :: x1 :: x2 :: x3 :: x4 :: x5 :: x6 :: x7 :: x8 :: x9 :: x10 :: x11 :: zA a :: ls) (zA a :: st) n h Q) : zRW M k b pc (x0 :: x1 :: x2 :: x3 :: x4 :: x5 :: x6 :: x7 :: x8 :: x9 :: x10 :: x11 :: zA a :: ls) st n h Q := z_ald hd rfl kk
theorem z_ll12 {x0 x1 x2 x3 x4 x5 x6 x7 x8 x9 x10 x11 : zV} (hd : zLL M pc 12 pc') (kk : zRW M k b pc' (x0 :: x1 :: x2 :: x3 :: x4 :: x5 :: x6 :: x7 :: x8 :: x9 :: x10 :: x11 :: zJ v :: ls) (zJ v :: st) n h Q) : zRW M k b pc (x0 :: x1 :: x2 :: x3 :: x4 :: x5 :: x6 :: x7 :: x8 :: x9 :: x10 :: x11 :: zJ v :: ls) st n h Q := z_lld hd rfl kk
theorem z_is12 {x0 x1 x2 x3 x4 x5 x6 x7 x8 x9 x10 x11 : zV} {w : zV} (hd : zIS M pc 12 pc') (hp : ¬ x11.1 = 1) (kk : zRW M k b pc' (x0 :: x1 :: x2 :: x3 :: x4 :: x5 :: x6 :: x7 :: x8 :: x9 :: x10 :: x11 :: zI v :: ls) st n h Q) : zRW M k b pc (x0 :: x1 :: x2 :: x3 :: x4 :: x5 :: x6 :: x7 :: x8 :: x9 :: x10 :: x11 :: w :: ls) (zI v :: st) n h Q := z_ist hd (by simp) (Or.inr (fun q hq => by cases hq; exact hp)) kk
theorem z_as12 {x0 x1 x2 x3 x4 x5 x6 x7 x8 x9 x10 x11 : zV} {w : zV} (hd : zAS M pc 12 pc') (hp : ¬ x11.1 = 1) (kk : zRW M k b pc' (x0 :: x1 :: x2 :: x3 :: x4 :: x5 :: x6 :: x7 :: x8 :: x9 :: x10 :: x11 :: zA a :: ls) st n h Q) : zRW M k b pc (x0 :: x1 :: x2 :: x3 :: x4 :: x5 :: x6 :: x7 :: x8 :: x9 :: x10 :: x11 :: w :: ls) (zA a :: st) n h Q := z_ast hd (by simp) (Or.inr (fun q hq => by cases hq; exact hp)) kk
theorem z_ls12 {x0 x1 x2 x3 x4 x5 x6 x7 x8 x9 x10 x11 : zV} {w w' : zV} (hd : zLS M pc 12 pc') (hp : ¬ x11.1 = 1) (kk : zRW M k b pc' (x0 :: x1 :: x2 :: x3 :: x4 :: x5 :: x6 :: x7 :: x8 :: x9 :: x10 :: x11 :: zJ v :: zU :: ls) st n h Q) : zRW M k b pc (x0 :: x1 :: x2 :: x3 :: x4 :: x5 :: x6 :: x7 :: x8 :: x9 :: x10 :: x11 :: w :: w' :: ls) (zJ v :: st) n h Q := z_lst hd (by simp) (Or.inr (fun q hq => by cases hq; exact hp)) kk
theorem z_inc12 {x0 x1 x2 x3 x4 x5 x6 x7 x8 x9 x10 x11 : zV} {q : Int} (hd : zDC M pc (.iinc 12 q) 3 pc') (hp : ¬ x11.1 = 1) (kk : zRW M k b pc' (x0 :: x1 :: x2 :: x3 :: x4 :: x5 :: x6 :: x7 :: x8 :: x9 :: x10 :: x11 :: zI (zw (v + q)) :: ls) st n h Q) : zRW M k b pc (x0 :: x1 :: x2 :: x3 :: x4 :: x5 :: x6 :: x7 :: x8 :: x9 :: x10 :: x11 :: zI v :: ls) st n h Q := z_inc hd rfl (Or.inr (fun q hq => by cases hq; exact hp)) kk
theorem z_fg12 {x0 x1 x2 x3 x4 x5 x6 x7 x8 x9 x10 x11 : zV} {w : zV} (kk : zRW M k b pc (x0 :: x1 :: x2 :: x3 :: x4 :: x5 :: x6 :: x7 :: x8 :: x9 :: x10 :: x11 :: zU :: ls) st n h Q) : zRW M k b pc (x0 :: x1 :: x2 :: x3 :: x4 :: x5 :: x6 :: x7 :: x8 :: x9 :: x10 :: x11 :: w :: ls) st n h Q := z_fg 12 kk
theorem z_ki (hd : zKI M pc v pc') (kk : zRW M k b pc' ls (zI v :: st) n h Q) : zRW M k b pc ls st n h Q := by
  intro G d mc ms p l e s m args below meth c H locs cells slots lr hk C hl hst hH hS hc1 hc2 hz
  have kk' : ∀ pcc, pcc = pc' → W p l e (zRm d mc ms) s m args below meth c H locs cells slots (MQ below (zQC G Q) args s mc ms (zAf G)) (F0 m pcc lr (.int (Int32.ofInt v) :: st.map (zE G))) := by
    intro pcc hpc
    subst hpc
    exact kk G d mc ms p l e s m args below meth c H locs cells slots lr hk C hl (fun q hq => by
      rcases List.mem_cons.mp hq with rfl | hq
      · exact hd.1
      · exact hst q hq) hH hS hc1 hc2 hz
  obtain ⟨hv, ⟨hdec, e1⟩ | ⟨hdec, e1, e2⟩ | ⟨hdec, e1, e2⟩ | ⟨j, hdec, e1, e2⟩ | ⟨j, hdec, e1, e2⟩⟩ := hd
  · exact lv_iconst C.1 C.2.1 hdec rfl (kk' _ e1)
  · exact lv_bipush C.1 C.2.1 hdec e2 (kk' _ e1)
  · exact lv_sipush C.1 C.2.1 hdec e2 (kk' _ e1)
  · exact lv_ldc C.1 C.2.1 C.2.2.2.2.2.1 (C.2.2.2.2.2.2.2.1 _ e2) hdec (kk' _ e1)
  · exact lv_ldcw C.1 C.2.1 C.2.2.2.2.2.1 (C.2.2.2.2.2.2.2.1 _ e2) hdec (kk' _ e1)
theorem z_kj (hd : zKJ M pc v pc') (kk : zRW M k b pc' ls (zJ v :: st) n h Q) : zRW M k b pc ls st n h Q := by
  intro G d mc ms p l e s m args below meth c H locs cells slots lr hk C hl hst hH hS hc1 hc2 hz
  have kk' : ∀ pcc, pcc = pc' → W p l e (zRm d mc ms) s m args below meth c H locs cells slots (MQ below (zQC G Q) args s mc ms (zAf G)) (F0 m pcc lr (.long (Int64.ofInt v) :: st.map (zE G))) := by
    intro pcc hpc
    subst hpc
    exact kk G d mc ms p l e s m args below meth c H locs cells slots lr hk C hl (fun q hq => by
      rcases List.mem_cons.mp hq with rfl | hq
      · exact hd.1
      · exact hst q hq) hH hS hc1 hc2 hz
  obtain ⟨hv, ⟨j, hdec, e1, e2⟩ | ⟨j, hdec, e1, e2⟩⟩ := hd
  · exact lv_lconst C.1 C.2.1 hdec e2 (kk' _ e1)
  · exact lv_ldc2 C.1 C.2.1 C.2.2.2.2.2.1 (C.2.2.2.2.2.2.2.1 _ e2) hdec (kk' _ e1)
theorem z_iadd (hd : zDC M pc .iadd 1 pc') (kk : zRW M k b pc' ls (zI (zw (x + y)) :: st) n h Q) : zRW M k b pc ls (zI y :: zI x :: st) n h Q := by
  intro G d mc ms p l e s m args below meth c H locs cells slots lr hk C hl hst hH hS hc1 hc2 hz
  obtain ⟨hdec, rfl⟩ := hd
  refine lv_iadd C.1 C.2.1 hdec ?_
  rw [← Int32.ofInt_add, ← zw_of]
  exact kk G d mc ms p l e s m args below meth c H locs cells slots lr hk C hl (fun q hq => by
    rcases List.mem_cons.mp hq with rfl | hq
    · exact zw_r _
    · exact hst q (by simp [hq])) hH hS hc1 hc2 hz
theorem z_isub (hd : zDC M pc .isub 1 pc') (kk : zRW M k b pc' ls (zI (zw (x - y)) :: st) n h Q) : zRW M k b pc ls (zI y :: zI x :: st) n h Q := by
  intro G d mc ms p l e s m args below meth c H locs cells slots lr hk C hl hst hH hS hc1 hc2 hz
  obtain ⟨hdec, rfl⟩ := hd
  refine lv_isub C.1 C.2.1 hdec ?_
  rw [← Int32.ofInt_sub, ← zw_of]
  exact kk G d mc ms p l e s m args below meth c H locs cells slots lr hk C hl (fun q hq => by
    rcases List.mem_cons.mp hq with rfl | hq
    · exact zw_r _
    · exact hst q (by simp [hq])) hH hS hc1 hc2 hz
theorem z_imul (hd : zDC M pc .imul 1 pc') (kk : zRW M k b pc' ls (zI (zw (x * y)) :: st) n h Q) : zRW M k b pc ls (zI y :: zI x :: st) n h Q := by
  intro G d mc ms p l e s m args below meth c H locs cells slots lr hk C hl hst hH hS hc1 hc2 hz
  obtain ⟨hdec, rfl⟩ := hd
  refine lv_imul C.1 C.2.1 hdec ?_
  rw [← Int32.ofInt_mul, ← zw_of]
  exact kk G d mc ms p l e s m args below meth c H locs cells slots lr hk C hl (fun q hq => by
    rcases List.mem_cons.mp hq with rfl | hq
    · exact zw_r _
    · exact hst q (by simp [hq])) hH hS hc1 hc2 hz
theorem z_iand (hd : zDC M pc .iand 1 pc') (kk : zRW M k b pc' ls (zI (zand x y) :: st) n h Q) : zRW M k b pc ls (zI y :: zI x :: st) n h Q := by
  intro G d mc ms p l e s m args below meth c H locs cells slots lr hk C hl hst hH hS hc1 hc2 hz
  obtain ⟨hdec, rfl⟩ := hd
  refine lv_iand C.1 C.2.1 hdec ?_
  rw [show Int32.ofInt x &&& Int32.ofInt y = Int32.ofInt (zand x y) by rw [zand, Int32.ofInt_toInt]]
  exact kk G d mc ms p l e s m args below meth c H locs cells slots lr hk C hl (fun q hq => by
    rcases List.mem_cons.mp hq with rfl | hq
    · exact z32_toInt _
    · exact hst q (by simp [hq])) hH hS hc1 hc2 hz
theorem z_ior (hd : zDC M pc .ior 1 pc') (kk : zRW M k b pc' ls (zI (zor x y) :: st) n h Q) : zRW M k b pc ls (zI y :: zI x :: st) n h Q := by
  intro G d mc ms p l e s m args below meth c H locs cells slots lr hk C hl hst hH hS hc1 hc2 hz
  obtain ⟨hdec, rfl⟩ := hd
  refine lv_ior C.1 C.2.1 hdec ?_
  rw [show Int32.ofInt x ||| Int32.ofInt y = Int32.ofInt (zor x y) by rw [zor, Int32.ofInt_toInt]]
  exact kk G d mc ms p l e s m args below meth c H locs cells slots lr hk C hl (fun q hq => by
    rcases List.mem_cons.mp hq with rfl | hq
    · exact z32_toInt _
    · exact hst q (by simp [hq])) hH hS hc1 hc2 hz
theorem z_ixor (hd : zDC M pc .ixor 1 pc') (kk : zRW M k b pc' ls (zI (zxor x y) :: st) n h Q) : zRW M k b pc ls (zI y :: zI x :: st) n h Q := by
  intro G d mc ms p l e s m args below meth c H locs cells slots lr hk C hl hst hH hS hc1 hc2 hz
  obtain ⟨hdec, rfl⟩ := hd
  refine lv_ixor C.1 C.2.1 hdec ?_
  rw [show Int32.ofInt x ^^^ Int32.ofInt y = Int32.ofInt (zxor x y) by rw [zxor, Int32.ofInt_toInt]]
  exact kk G d mc ms p l e s m args below meth c H locs cells slots lr hk C hl (fun q hq => by
    rcases List.mem_cons.mp hq with rfl | hq
    · exact z32_toInt _
    · exact hst q (by simp [hq])) hH hS hc1 hc2 hz
theorem z_ishl (hd : zDC M pc .ishl 1 pc') (kk : zRW M k b pc' ls (zI (zshl x y) :: st) n h Q) : zRW M k b pc ls (zI y :: zI x :: st) n h Q := by
  intro G d mc ms p l e s m args below meth c H locs cells slots lr hk C hl hst hH hS hc1 hc2 hz
  obtain ⟨hdec, rfl⟩ := hd
  refine lv_ishl C.1 C.2.1 hdec ?_
  rw [show Int32.ofInt x <<< (Int32.ofInt y &&& 31) = Int32.ofInt (zshl x y) by rw [zshl, Int32.ofInt_toInt]]
  exact kk G d mc ms p l e s m args below meth c H locs cells slots lr hk C hl (fun q hq => by
    rcases List.mem_cons.mp hq with rfl | hq
    · exact z32_toInt _
    · exact hst q (by simp [hq])) hH hS hc1 hc2 hz
theorem z_ishr (hd : zDC M pc .ishr 1 pc') (kk : zRW M k b pc' ls (zI (zshr x y) :: st) n h Q) : zRW M k b pc ls (zI y :: zI x :: st) n h Q := by
  intro G d mc ms p l e s m args below meth c H locs cells slots lr hk C hl hst hH hS hc1 hc2 hz
  obtain ⟨hdec, rfl⟩ := hd
  refine lv_ishr C.1 C.2.1 hdec ?_
  rw [show Int32.ofInt x >>> (Int32.ofInt y &&& 31) = Int32.ofInt (zshr x y) by rw [zshr, Int32.ofInt_toInt]]
  exact kk G d mc ms p l e s m args below meth c H locs cells slots lr hk C hl (fun q hq => by
    rcases List.mem_cons.mp hq with rfl | hq
    · exact z32_toInt _
    · exact hst q (by simp [hq])) hH hS hc1 hc2 hz
theorem z_idiv (hd : zDC M pc .idiv 1 pc') (hne : ¬ y = 0) (kk : zRW M k b pc' ls (zI (zdiv x y) :: st) n h Q) : zRW M k b pc ls (zI y :: zI x :: st) n h Q := by
  intro G d mc ms p l e s m args below meth c H locs cells slots lr hk C hl hst hH hS hc1 hc2 hz
  obtain ⟨hdec, rfl⟩ := hd
  refine lv_idiv C.1 C.2.1 hdec (fun q => hne (by rw [show (0 : Int32) = Int32.ofInt 0 from rfl, z32_eq (hst (zI y) (by simp)) (by unfold z32; omega)] at q; exact q)) ?_
  rw [show Int32.ofInt x / Int32.ofInt y = Int32.ofInt (zdiv x y) by rw [zdiv, Int32.ofInt_toInt]]
  exact kk G d mc ms p l e s m args below meth c H locs cells slots lr hk C hl (fun q hq => by
    rcases List.mem_cons.mp hq with rfl | hq
    · exact z32_toInt _
    · exact hst q (by simp [hq])) hH hS hc1 hc2 hz
theorem z_irem (hd : zDC M pc .irem 1 pc') (hne : ¬ y = 0) (kk : zRW M k b pc' ls (zI (zrem x y) :: st) n h Q) : zRW M k b pc ls (zI y :: zI x :: st) n h Q := by
  intro G d mc ms p l e s m args below meth c H locs cells slots lr hk C hl hst hH hS hc1 hc2 hz
  obtain ⟨hdec, rfl⟩ := hd
  refine lv_irem C.1 C.2.1 hdec (fun q => hne (by rw [show (0 : Int32) = Int32.ofInt 0 from rfl, z32_eq (hst (zI y) (by simp)) (by unfold z32; omega)] at q; exact q)) ?_
  rw [show Int32.ofInt x - Int32.ofInt x / Int32.ofInt y * Int32.ofInt y = Int32.ofInt (zrem x y) by rw [zrem, Int32.ofInt_toInt]]
  exact kk G d mc ms p l e s m args below meth c H locs cells slots lr hk C hl (fun q hq => by
    rcases List.mem_cons.mp hq with rfl | hq
    · exact z32_toInt _
    · exact hst q (by simp [hq])) hH hS hc1 hc2 hz
theorem z_ladd (hd : zDC M pc .ladd 1 pc') (kk : zRW M k b pc' ls (zJ (zl (x + y)) :: st) n h Q) : zRW M k b pc ls (zJ y :: zJ x :: st) n h Q := by
  intro G d mc ms p l e s m args below meth c H locs cells slots lr hk C hl hst hH hS hc1 hc2 hz
  obtain ⟨hdec, rfl⟩ := hd
  refine lv_ladd C.1 C.2.1 hdec ?_
  rw [← Int64.ofInt_add, ← zl_of]
  exact kk G d mc ms p l e s m args below meth c H locs cells slots lr hk C hl (fun q hq => by
    rcases List.mem_cons.mp hq with rfl | hq
    · exact zl_r _
    · exact hst q (by simp [hq])) hH hS hc1 hc2 hz
theorem z_lsub (hd : zDC M pc .lsub 1 pc') (kk : zRW M k b pc' ls (zJ (zl (x - y)) :: st) n h Q) : zRW M k b pc ls (zJ y :: zJ x :: st) n h Q := by
  intro G d mc ms p l e s m args below meth c H locs cells slots lr hk C hl hst hH hS hc1 hc2 hz
  obtain ⟨hdec, rfl⟩ := hd
  refine lv_lsub C.1 C.2.1 hdec ?_
  rw [← Int64.ofInt_sub, ← zl_of]
  exact kk G d mc ms p l e s m args below meth c H locs cells slots lr hk C hl (fun q hq => by
    rcases List.mem_cons.mp hq with rfl | hq
    · exact zl_r _
    · exact hst q (by simp [hq])) hH hS hc1 hc2 hz
theorem z_lmul (hd : zDC M pc .lmul 1 pc') (kk : zRW M k b pc' ls (zJ (zl (x * y)) :: st) n h Q) : zRW M k b pc ls (zJ y :: zJ x :: st) n h Q := by
  intro G d mc ms p l e s m args below meth c H locs cells slots lr hk C hl hst hH hS hc1 hc2 hz
  obtain ⟨hdec, rfl⟩ := hd
  refine lv_lmul C.1 C.2.1 hdec ?_
  rw [← Int64.ofInt_mul, ← zl_of]
  exact kk G d mc ms p l e s m args below meth c H locs cells slots lr hk C hl (fun q hq => by
    rcases List.mem_cons.mp hq with rfl | hq
    · exact zl_r _
    · exact hst q (by simp [hq])) hH hS hc1 hc2 hz
theorem z_land (hd : zDC M pc .land 1 pc') (kk : zRW M k b pc' ls (zJ (zland x y) :: st) n h Q) : zRW M k b pc ls (zJ y :: zJ x :: st) n h Q := by
  intro G d mc ms p l e s m args below meth c H locs cells slots lr hk C hl hst hH hS hc1 hc2 hz
  obtain ⟨hdec, rfl⟩ := hd
  refine lv_land C.1 C.2.1 hdec ?_
  rw [show Int64.ofInt x &&& Int64.ofInt y = Int64.ofInt (zland x y) by rw [zland, Int64.ofInt_toInt]]
  exact kk G d mc ms p l e s m args below meth c H locs cells slots lr hk C hl (fun q hq => by
    rcases List.mem_cons.mp hq with rfl | hq
    · exact z64_toInt _
    · exact hst q (by simp [hq])) hH hS hc1 hc2 hz
theorem z_lor (hd : zDC M pc .lor 1 pc') (kk : zRW M k b pc' ls (zJ (zlor x y) :: st) n h Q) : zRW M k b pc ls (zJ y :: zJ x :: st) n h Q := by
  intro G d mc ms p l e s m args below meth c H locs cells slots lr hk C hl hst hH hS hc1 hc2 hz
  obtain ⟨hdec, rfl⟩ := hd
  refine lv_lor C.1 C.2.1 hdec ?_
  rw [show Int64.ofInt x ||| Int64.ofInt y = Int64.ofInt (zlor x y) by rw [zlor, Int64.ofInt_toInt]]
  exact kk G d mc ms p l e s m args below meth c H locs cells slots lr hk C hl (fun q hq => by
    rcases List.mem_cons.mp hq with rfl | hq
    · exact z64_toInt _
    · exact hst q (by simp [hq])) hH hS hc1 hc2 hz
theorem z_ldiv (hd : zDC M pc .ldiv 1 pc') (hne : ¬ y = 0) (kk : zRW M k b pc' ls (zJ (zldiv x y) :: st) n h Q) : zRW M k b pc ls (zJ y :: zJ x :: st) n h Q := by
  intro G d mc ms p l e s m args below meth c H locs cells slots lr hk C hl hst hH hS hc1 hc2 hz
  obtain ⟨hdec, rfl⟩ := hd
  refine lv_ldiv C.1 C.2.1 hdec (fun q => hne (by rw [show (0 : Int64) = Int64.ofInt 0 from rfl, ← Int64.toInt_inj, z64_ti (hst (zJ y) (by simp)), z64_ti (by unfold z64; omega)] at q; exact q)) ?_
  rw [show Int64.ofInt x / Int64.ofInt y = Int64.ofInt (zldiv x y) by rw [zldiv, Int64.ofInt_toInt]]
  exact kk G d mc ms p l e s m args below meth c H locs cells slots lr hk C hl (fun q hq => by
    rcases List.mem_cons.mp hq with rfl | hq
    · exact z64_toInt _
    · exact hst q (by simp [hq])) hH hS hc1 hc2 hz
theorem z_lrem (hd : zDC M pc .lrem 1 pc') (hne : ¬ y = 0) (kk : zRW M k b pc' ls (zJ (zlrem x y) :: st) n h Q) : zRW M k b pc ls (zJ y :: zJ x :: st) n h Q := by
  intro G d mc ms p l e s m args below meth c H locs cells slots lr hk C hl hst hH hS hc1 hc2 hz
  obtain ⟨hdec, rfl⟩ := hd
  refine lv_lrem C.1 C.2.1 hdec (fun q => hne (by rw [show (0 : Int64) = Int64.ofInt 0 from rfl, ← Int64.toInt_inj, z64_ti (hst (zJ y) (by simp)), z64_ti (by unfold z64; omega)] at q; exact q)) ?_
  rw [show Int64.ofInt x - Int64.ofInt x / Int64.ofInt y * Int64.ofInt y = Int64.ofInt (zlrem x y) by rw [zlrem, Int64.ofInt_toInt]]
  exact kk G d mc ms p l e s m args below meth c H locs cells slots lr hk C hl (fun q hq => by
    rcases List.mem_cons.mp hq with rfl | hq
    · exact z64_toInt _
    · exact hst q (by simp [hq])) hH hS hc1 hc2 hz
theorem z_lshl (hd : zDC M pc .lshl 1 pc') (kk : zRW M k b pc' ls (zJ (zlshl x y) :: st) n h Q) : zRW M k b pc ls (zI y :: zJ x :: st) n h Q := by
  intro G d mc ms p l e s m args below meth c H locs cells slots lr hk C hl hst hH hS hc1 hc2 hz
  obtain ⟨hdec, rfl⟩ := hd
  refine lv_lshl C.1 C.2.1 hdec (v := Int64.ofInt (zlshl x y)) (by rw [zlshl, Int64.ofInt_toInt]) ?_
  exact kk G d mc ms p l e s m args below meth c H locs cells slots lr hk C hl (fun q hq => by
    rcases List.mem_cons.mp hq with rfl | hq
    · exact z64_toInt _
    · exact hst q (by simp [hq])) hH hS hc1 hc2 hz
theorem z_lshr (hd : zDC M pc .lshr 1 pc') (kk : zRW M k b pc' ls (zJ (zlshr x y) :: st) n h Q) : zRW M k b pc ls (zI y :: zJ x :: st) n h Q := by
  intro G d mc ms p l e s m args below meth c H locs cells slots lr hk C hl hst hH hS hc1 hc2 hz
  obtain ⟨hdec, rfl⟩ := hd
  refine lv_lshr C.1 C.2.1 hdec (v := Int64.ofInt (zlshr x y)) (by rw [zlshr, Int64.ofInt_toInt]) ?_
  exact kk G d mc ms p l e s m args below meth c H locs cells slots lr hk C hl (fun q hq => by
    rcases List.mem_cons.mp hq with rfl | hq
    · exact z64_toInt _
    · exact hst q (by simp [hq])) hH hS hc1 hc2 hz
theorem z_iushr (hd : zDC M pc .iushr 1 pc') (kk : zRW M k b pc' ls (zI (zushr x y) :: st) n h Q) : zRW M k b pc ls (zI y :: zI x :: st) n h Q := by
  intro G d mc ms p l e s m args below meth c H locs cells slots lr hk C hl hst hH hS hc1 hc2 hz
  obtain ⟨hdec, rfl⟩ := hd
  refine lv_iushr C.1 C.2.1 hdec (v := Int32.ofInt (zushr x y)) (by rw [zushr, Int32.ofInt_toInt]) ?_
  exact kk G d mc ms p l e s m args below meth c H locs cells slots lr hk C hl (fun q hq => by
    rcases List.mem_cons.mp hq with rfl | hq
    · exact z32_toInt _
    · exact hst q (by simp [hq])) hH hS hc1 hc2 hz
theorem z_ineg (hd : zDC M pc .ineg 1 pc') (kk : zRW M k b pc' ls (zI (zw (-x)) :: st) n h Q) : zRW M k b pc ls (zI x :: st) n h Q := by
  intro G d mc ms p l e s m args below meth c H locs cells slots lr hk C hl hst hH hS hc1 hc2 hz
  obtain ⟨hdec, rfl⟩ := hd
  refine lv_ineg C.1 C.2.1 hdec ?_
  rw [← Int32.ofInt_neg, ← zw_of]
  exact kk G d mc ms p l e s m args below meth c H locs cells slots lr hk C hl (fun q hq => by
    rcases List.mem_cons.mp hq with rfl | hq
    · exact zw_r _
    · exact hst q (by simp [hq])) hH hS hc1 hc2 hz
theorem z_lneg (hd : zDC M pc .lneg 1 pc') (kk : zRW M k b pc' ls (zJ (zl (-x)) :: st) n h Q) : zRW M k b pc ls (zJ x :: st) n h Q := by
  intro G d mc ms p l e s m args below meth c H locs cells slots lr hk C hl hst hH hS hc1 hc2 hz
  obtain ⟨hdec, rfl⟩ := hd
  refine lv_lneg C.1 C.2.1 hdec ?_
  rw [← Int64.ofInt_neg, ← zl_of]
  exact kk G d mc ms p l e s m args below meth c H locs cells slots lr hk C hl (fun q hq => by
    rcases List.mem_cons.mp hq with rfl | hq
    · exact zl_r _
    · exact hst q (by simp [hq])) hH hS hc1 hc2 hz
theorem z_i2l (hd : zDC M pc .i2l 1 pc') (kk : zRW M k b pc' ls (zJ (x) :: st) n h Q) : zRW M k b pc ls (zI x :: st) n h Q := by
  intro G d mc ms p l e s m args below meth c H locs cells slots lr hk C hl hst hH hS hc1 hc2 hz
  obtain ⟨hdec, rfl⟩ := hd
  have hx : z32 x := hst (zI x) (by simp)
  refine lv_i2l C.1 C.2.1 hdec (v := Int64.ofInt x) (by rw [← Int64.toInt_inj, Int32.toInt_toInt64, z32_ti hx, z64_ti (by unfold z32 at hx; unfold z64; omega)]) ?_
  exact kk G d mc ms p l e s m args below meth c H locs cells slots lr hk C hl (fun q hq => by
    rcases List.mem_cons.mp hq with rfl | hq
    · exact by unfold z32 at hx; show z64 x; unfold z64; omega
    · exact hst q (by simp [hq])) hH hS hc1 hc2 hz
theorem z_l2i (hd : zDC M pc .l2i 1 pc') (kk : zRW M k b pc' ls (zI (zl2i x) :: st) n h Q) : zRW M k b pc ls (zJ x :: st) n h Q := by
  intro G d mc ms p l e s m args below meth c H locs cells slots lr hk C hl hst hH hS hc1 hc2 hz
  obtain ⟨hdec, rfl⟩ := hd
  refine lv_l2i C.1 C.2.1 hdec (v := Int32.ofInt (zl2i x)) (by rw [zl2i, Int32.ofInt_toInt]) ?_
  exact kk G d mc ms p l e s m args below meth c H locs cells slots lr hk C hl (fun q hq => by
    rcases List.mem_cons.mp hq with rfl | hq
    · exact z32_toInt _
    · exact hst q (by simp [hq])) hH hS hc1 hc2 hz
theorem z_i2b (hd : zDC M pc .i2b 1 pc') (kk : zRW M k b pc' ls (zI (zi2b x) :: st) n h Q) : zRW M k b pc ls (zI x :: st) n h Q := by
  intro G d mc ms p l e s m args below meth c H locs cells slots lr hk C hl hst hH hS hc1 hc2 hz
  obtain ⟨hdec, rfl⟩ := hd
  refine lv_i2b C.1 C.2.1 hdec (v := Int32.ofInt (zi2b x)) (by rw [zi2b, Int32.ofInt_toInt]) ?_
  exact kk G d mc ms p l e s m args below meth c H locs cells slots lr hk C hl (fun q hq => by
    rcases List.mem_cons.mp hq with rfl | hq
    · exact z32_toInt _
    · exact hst q (by simp [hq])) hH hS hc1 hc2 hz
theorem z_i2s (hd : zDC M pc .i2s 1 pc') (kk : zRW M k b pc' ls (zI (zi2s x) :: st) n h Q) : zRW M k b pc ls (zI x :: st) n h Q := by
  intro G d mc ms p l e s m args below meth c H locs cells slots lr hk C hl hst hH hS hc1 hc2 hz
  obtain ⟨hdec, rfl⟩ := hd
  refine lv_i2s C.1 C.2.1 hdec (v := Int32.ofInt (zi2s x)) (by rw [zi2s, Int32.ofInt_toInt]) ?_
  exact kk G d mc ms p l e s m args below meth c H locs cells slots lr hk C hl (fun q hq => by
    rcases List.mem_cons.mp hq with rfl | hq
    · exact z32_toInt _
    · exact hst q (by simp [hq])) hH hS hc1 hc2 hz
theorem z_i2c (hd : zDC M pc .i2c 1 pc') (kk : zRW M k b pc' ls (zI (zi2c x) :: st) n h Q) : zRW M k b pc ls (zI x :: st) n h Q := by
  intro G d mc ms p l e s m args below meth c H locs cells slots lr hk C hl hst hH hS hc1 hc2 hz
  obtain ⟨hdec, rfl⟩ := hd
  refine lv_i2c C.1 C.2.1 hdec (v := Int32.ofInt (zi2c x)) (by rw [zi2c, Int32.ofInt_toInt]) ?_
  exact kk G d mc ms p l e s m args below meth c H locs cells slots lr hk C hl (fun q hq => by
    rcases List.mem_cons.mp hq with rfl | hq
    · exact z32_toInt _
    · exact hst q (by simp [hq])) hH hS hc1 hc2 hz
theorem z_lcmp (hd : zDC M pc .lcmp 1 pc') (kk : zRW M k b pc' ls (zI (zcmp x y) :: st) n h Q) : zRW M k b pc ls (zJ y :: zJ x :: st) n h Q := by
  intro G d mc ms p l e s m args below meth c H locs cells slots lr hk C hl hst hH hS hc1 hc2 hz
  obtain ⟨hdec, rfl⟩ := hd
  have hx : z64 x := hst (zJ x) (by simp)
  have hy : z64 y := hst (zJ y) (by simp)
  refine W.lcmp C.1 C.2.1 hdec ?_
  have e1 : lg_cmp (Int64.ofInt x) (Int64.ofInt y) = Int32.ofInt (zcmp x y) := by
    unfold lg_cmp zcmp
    simp only [gt_iff_lt, Int64.lt_iff_toInt_lt, ← Int64.toInt_inj, z64_ti hx, z64_ti hy]
    by_cases q1 : x < y
    · rw [if_neg (by omega), if_neg (by omega), if_pos q1]
      rfl
    · by_cases q2 : y < x
      · rw [if_pos q2, if_neg q1, if_pos q2]
        rfl
      · rw [if_neg q2, if_pos (by omega), if_neg q1, if_neg q2]
        rfl
  rw [e1]
  exact kk G d mc ms p l e s m args below meth c H locs cells slots lr hk C hl (fun q hq => by
    rcases List.mem_cons.mp hq with rfl | hq
    · exact by show z32 (zcmp x y); unfold z32 zcmp; split; (omega); split <;> omega
    · exact hst q (by simp [hq])) hH hS hc1 hc2 hz
theorem z_dup {q : zV} (hd : zDC M pc .dup 1 pc') (hq : ¬ q.1 = 1) (kk : zRW M k b pc' ls (q :: q :: st) n h Q) : zRW M k b pc ls (q :: st) n h Q := by
  intro G d mc ms p l e s m args below meth c H locs cells slots lr hk C hl hst hH hS hc1 hc2 hz
  obtain ⟨hdec, rfl⟩ := hd
  refine lv_dup C.1 C.2.1 hdec (by rw [zE_cat, if_neg hq]) ?_
  exact kk G d mc ms p l e s m args below meth c H locs cells slots lr hk C hl (fun z hzz => by
    rcases List.mem_cons.mp hzz with rfl | hzz
    · exact hst _ List.mem_cons_self
    · exact hst z hzz) hH hS hc1 hc2 hz
theorem z_pop {q : zV} (hd : zDC M pc .pop 1 pc') (hq : ¬ q.1 = 1) (kk : zRW M k b pc' ls st n h Q) : zRW M k b pc ls (q :: st) n h Q := by
  intro G d mc ms p l e s m args below meth c H locs cells slots lr hk C hl hst hH hS hc1 hc2 hz
  obtain ⟨hdec, rfl⟩ := hd
  refine lv_pop C.1 C.2.1 hdec (by rw [zE_cat, if_neg hq]) ?_
  exact kk G d mc ms p l e s m args below meth c H locs cells slots lr hk C hl (fun z hzz => hst z (List.mem_cons_of_mem _ hzz)) hH hS hc1 hc2 hz
theorem z_dup2 {q r : zV} (hd : zDC M pc .dup2 1 pc') (hq : ¬ q.1 = 1) (hr : ¬ r.1 = 1) (kk : zRW M k b pc' ls (q :: r :: q :: r :: st) n h Q) : zRW M k b pc ls (q :: r :: st) n h Q := by
  intro G d mc ms p l e s m args below meth c H locs cells slots lr hk C hl hst hH hS hc1 hc2 hz
  obtain ⟨hdec, rfl⟩ := hd
  refine lv_dup2_11 C.1 C.2.1 hdec (by rw [zE_cat, if_neg hq]) (by rw [zE_cat, if_neg hr]) ?_
  exact kk G d mc ms p l e s m args below meth c H locs cells slots lr hk C hl (fun z hzz => hst z (by
    simp only [List.mem_cons] at hzz ⊢
    rcases hzz with h | h | h
    · exact Or.inl h
    · exact Or.inr (Or.inl h)
    · exact h)) hH hS hc1 hc2 hz
theorem z_goto {off : Int} (hd : zDC M pc (.goto off) 3 na) (ht : (pc : Int) + off = (pc' : Int)) (kk : zRW M k b pc' ls st n h Q) : zRW M k b pc ls st n h Q := by
  intro G d mc ms p l e s m args below meth c H locs cells slots lr hk C hl hst hH hS hc1 hc2 hz
  obtain ⟨hdec, rfl⟩ := hd
  refine lv_goto C.1 C.2.1 hdec ht ?_
  exact kk G d mc ms p l e s m args below meth c H locs cells slots lr hk C hl hst hH hS hc1 hc2 hz
theorem z_ceq {off : Int} (hd : zDC M pc (.if_icmp .eq off) 3 pc') (ht : (pc : Int) + off = (na : Int)) (kt : x = y → zRW M k b na ls st n h Q) (kf : ¬ (x = y) → zRW M k b pc' ls st n h Q) : zRW M k b pc ls (zI y :: zI x :: st) n h Q := by
  intro G d mc ms p l e s m args below meth c H locs cells slots lr hk C hl hst hH hS hc1 hc2 hz
  obtain ⟨hdec, rfl⟩ := hd
  have hx : z32 x := hst (zI x) (by simp)
  have hy : z32 y := hst (zI y) (by simp)
  refine lv_icmp_eq C.1 C.2.1 hdec ht (fun hc => ?_) (fun hc => ?_)
  · rw [z32_eq hx hy] at hc
    exact kt hc G d mc ms p l e s m args below meth c H locs cells slots lr hk C hl (fun q hq => hst q (by simp [hq])) hH hS hc1 hc2 hz
  · rw [z32_eq hx hy] at hc
    exact kf hc G d mc ms p l e s m args below meth c H locs cells slots lr hk C hl (fun q hq => hst q (by simp [hq])) hH hS hc1 hc2 hz
theorem z_ieq {off : Int} (hd : zDC M pc (.ifCond .eq off) 3 pc') (ht : (pc : Int) + off = (na : Int)) (kt : x = 0 → zRW M k b na ls st n h Q) (kf : ¬ (x = 0) → zRW M k b pc' ls st n h Q) : zRW M k b pc ls (zI x :: st) n h Q := by
  intro G d mc ms p l e s m args below meth c H locs cells slots lr hk C hl hst hH hS hc1 hc2 hz
  obtain ⟨hdec, rfl⟩ := hd
  have hx : z32 x := hst (zI x) (by simp)
  have h00 : z32 0 := by unfold z32; omega
  refine lv_if_eq C.1 C.2.1 hdec ht (fun hc => ?_) (fun hc => ?_)
  · rw [show (0 : Int32) = Int32.ofInt 0 from rfl, z32_eq hx h00] at hc
    exact kt hc G d mc ms p l e s m args below meth c H locs cells slots lr hk C hl (fun q hq => hst q (by simp [hq])) hH hS hc1 hc2 hz
  · rw [show (0 : Int32) = Int32.ofInt 0 from rfl, z32_eq hx h00] at hc
    exact kf hc G d mc ms p l e s m args below meth c H locs cells slots lr hk C hl (fun q hq => hst q (by simp [hq])) hH hS hc1 hc2 hz
theorem z_cne {off : Int} (hd : zDC M pc (.if_icmp .ne off) 3 pc') (ht : (pc : Int) + off = (na : Int)) (kt : ¬ x = y → zRW M k b na ls st n h Q) (kf : x = y → zRW M k b pc' ls st n h Q) : zRW M k b pc ls (zI y :: zI x :: st) n h Q := by
  intro G d mc ms p l e s m args below meth c H locs cells slots lr hk C hl hst hH hS hc1 hc2 hz
  obtain ⟨hdec, rfl⟩ := hd
  have hx : z32 x := hst (zI x) (by simp)
  have hy : z32 y := hst (zI y) (by simp)
  refine lv_icmp_ne C.1 C.2.1 hdec ht (fun hc => ?_) (fun hc => ?_)
  · rw [z32_eq hx hy] at hc
    exact kt hc G d mc ms p l e s m args below meth c H locs cells slots lr hk C hl (fun q hq => hst q (by simp [hq])) hH hS hc1 hc2 hz
  · rw [z32_eq hx hy] at hc
    exact kf hc G d mc ms p l e s m args below meth c H locs cells slots lr hk C hl (fun q hq => hst q (by simp [hq])) hH hS hc1 hc2 hz
theorem z_ine {off : Int} (hd : zDC M pc (.ifCond .ne off) 3 pc') (ht : (pc : Int) + off = (na : Int)) (kt : ¬ x = 0 → zRW M k b na ls st n h Q) (kf : x = 0 → zRW M k b pc' ls st n h Q) : zRW M k b pc ls (zI x :: st) n h Q := by
  intro G d mc ms p l e s m args below meth c H locs cells slots lr hk C hl hst hH hS hc1 hc2 hz
  obtain ⟨hdec, rfl⟩ := hd
  have hx : z32 x := hst (zI x) (by simp)
  have h00 : z32 0 := by unfold z32; omega
  refine lv_if_ne C.1 C.2.1 hdec ht (fun hc => ?_) (fun hc => ?_)
  · rw [show (0 : Int32) = Int32.ofInt 0 from rfl, z32_eq hx h00] at hc
    exact kt hc G d mc ms p l e s m args below meth c H locs cells slots lr hk C hl (fun q hq => hst q (by simp [hq])) hH hS hc1 hc2 hz
  · rw [show (0 : Int32) = Int32.ofInt 0 from rfl, z32_eq hx h00] at hc
    exact kf hc G d mc ms p l e s m args below meth c H locs cells slots lr hk C hl (fun q hq => hst q (by simp [hq])) hH hS hc1 hc2 hz
theorem z_clt {off : Int} (hd : zDC M pc (.if_icmp .lt off) 3 pc') (ht : (pc : Int) + off = (na : Int)) (kt : x < y → zRW M k b na ls st n h Q) (kf : ¬ (x < y) → zRW M k b pc' ls st n h Q) : zRW M k b pc ls (zI y :: zI x :: st) n h Q := by
  intro G d mc ms p l e s m args below meth c H locs cells slots lr hk C hl hst hH hS hc1 hc2 hz
  obtain ⟨hdec, rfl⟩ := hd
  have hx : z32 x := hst (zI x) (by simp)
  have hy : z32 y := hst (zI y) (by simp)
  refine lv_icmp_lt C.1 C.2.1 hdec ht (fun hc => ?_) (fun hc => ?_)
  · rw [z32_lt hx hy] at hc
    exact kt hc G d mc ms p l e s m args below meth c H locs cells slots lr hk C hl (fun q hq => hst q (by simp [hq])) hH hS hc1 hc2 hz
  · rw [z32_lt hx hy] at hc
    exact kf hc G d mc ms p l e s m args below meth c H locs cells slots lr hk C hl (fun q hq => hst q (by simp [hq])) hH hS hc1 hc2 hz
theorem z_ilt {off : Int} (hd : zDC M pc (.ifCond .lt off) 3 pc') (ht : (pc : Int) + off = (na : Int)) (kt : x < 0 → zRW M k b na ls st n h Q) (kf : ¬ (x < 0) → zRW M k b pc' ls st n h Q) : zRW M k b pc ls (zI x :: st) n h Q := by
  intro G d mc ms p l e s m args below meth c H locs cells slots lr hk C hl hst hH hS hc1 hc2 hz
  obtain ⟨hdec, rfl⟩ := hd
  have hx : z32 x := hst (zI x) (by simp)
  have h00 : z32 0 := by unfold z32; omega
  refine lv_if_lt C.1 C.2.1 hdec ht (fun hc => ?_) (fun hc => ?_)
  · rw [show (0 : Int32) = Int32.ofInt 0 from rfl, z32_lt hx h00] at hc
    exact kt hc G d mc ms p l e s m args below meth c H locs cells slots lr hk C hl (fun q hq => hst q (by simp [hq])) hH hS hc1 hc2 hz
  · rw [show (0 : Int32) = Int32.ofInt 0 from rfl, z32_lt hx h00] at hc
    exact kf hc G d mc ms p l e s m args below meth c H locs cells slots lr hk C hl (fun q hq => hst q (by simp [hq])) hH hS hc1 hc2 hz
theorem z_cge {off : Int} (hd : zDC M pc (.if_icmp .ge off) 3 pc') (ht : (pc : Int) + off = (na : Int)) (kt : y ≤ x → zRW M k b na ls st n h Q) (kf : ¬ (y ≤ x) → zRW M k b pc' ls st n h Q) : zRW M k b pc ls (zI y :: zI x :: st) n h Q := by
  intro G d mc ms p l e s m args below meth c H locs cells slots lr hk C hl hst hH hS hc1 hc2 hz
  obtain ⟨hdec, rfl⟩ := hd
  have hx : z32 x := hst (zI x) (by simp)
  have hy : z32 y := hst (zI y) (by simp)
  refine lv_icmp_ge C.1 C.2.1 hdec ht (fun hc => ?_) (fun hc => ?_)
  · rw [z32_le hy hx] at hc
    exact kt hc G d mc ms p l e s m args below meth c H locs cells slots lr hk C hl (fun q hq => hst q (by simp [hq])) hH hS hc1 hc2 hz
  · rw [z32_le hy hx] at hc
    exact kf hc G d mc ms p l e s m args below meth c H locs cells slots lr hk C hl (fun q hq => hst q (by simp [hq])) hH hS hc1 hc2 hz
theorem z_ige {off : Int} (hd : zDC M pc (.ifCond .ge off) 3 pc') (ht : (pc : Int) + off = (na : Int)) (kt : 0 ≤ x → zRW M k b na ls st n h Q) (kf : ¬ (0 ≤ x) → zRW M k b pc' ls st n h Q) : zRW M k b pc ls (zI x :: st) n h Q := by
  intro G d mc ms p l e s m args below meth c H locs cells slots lr hk C hl hst hH hS hc1 hc2 hz
  obtain ⟨hdec, rfl⟩ := hd
  have hx : z32 x := hst (zI x) (by simp)
  have h00 : z32 0 := by unfold z32; omega
  refine lv_if_ge C.1 C.2.1 hdec ht (fun hc => ?_) (fun hc => ?_)
  · rw [show (0 : Int32) = Int32.ofInt 0 from rfl, z32_le h00 hx] at hc
    exact kt hc G d mc ms p l e s m args below meth c H locs cells slots lr hk C hl (fun q hq => hst q (by simp [hq])) hH hS hc1 hc2 hz
  · rw [show (0 : Int32) = Int32.ofInt 0 from rfl, z32_le h00 hx] at hc
    exact kf hc G d mc ms p l e s m args below meth c H locs cells slots lr hk C hl (fun q hq => hst q (by simp [hq])) hH hS hc1 hc2 hz
theorem z_cgt {off : Int} (hd : zDC M pc (.if_icmp .gt off) 3 pc') (ht : (pc : Int) + off = (na : Int)) (kt : y < x → zRW M k b na ls st n h Q) (kf : ¬ (y < x) → zRW M k b pc' ls st n h Q) : zRW M k b pc ls (zI y :: zI x :: st) n h Q := by
  intro G d mc ms p l e s m args below meth c H locs cells slots lr hk C hl hst hH hS hc1 hc2 hz
  obtain ⟨hdec, rfl⟩ := hd
  have hx : z32 x := hst (zI x) (by simp)
  have hy : z32 y := hst (zI y) (by simp)
  refine lv_icmp_gt C.1 C.2.1 hdec ht (fun hc => ?_) (fun hc => ?_)
  · rw [z32_lt hy hx] at hc
    exact kt hc G d mc ms p l e s m args below meth c H locs cells slots lr hk C hl (fun q hq => hst q (by simp [hq])) hH hS hc1 hc2 hz
  · rw [z32_lt hy hx] at hc
    exact kf hc G d mc ms p l e s m args below meth c H locs cells slots lr hk C hl (fun q hq => hst q (by simp [hq])) hH hS hc1 hc2 hz
theorem z_igt {off : Int} (hd : zDC M pc (.ifCond .gt off) 3 pc') (ht : (pc : Int) + off = (na : Int)) (kt : 0 < x → zRW M k b na ls st n h Q) (kf : ¬ (0 < x) → zRW M k b pc' ls st n h Q) : zRW M k b pc ls (zI x :: st) n h Q := by
  intro G d mc ms p l e s m args below meth c H locs cells slots lr hk C hl hst hH hS hc1 hc2 hz
  obtain ⟨hdec, rfl⟩ := hd
  have hx : z32 x := hst (zI x) (by simp)
  have h00 : z32 0 := by unfold z32; omega
  refine lv_if_gt C.1 C.2.1 hdec ht (fun hc => ?_) (fun hc => ?_)
  · rw [show (0 : Int32) = Int32.ofInt 0 from rfl, z32_lt h00 hx] at hc
    exact kt hc G d mc ms p l e s m args below meth c H locs cells slots lr hk C hl (fun q hq => hst q (by simp [hq])) hH hS hc1 hc2 hz
  · rw [show (0 : Int32) = Int32.ofInt 0 from rfl, z32_lt h00 hx] at hc
    exact kf hc G d mc ms p l e s m args below meth c H locs cells slots lr hk C hl (fun q hq => hst q (by simp [hq])) hH hS hc1 hc2 hz
theorem z_cle {off : Int} (hd : zDC M pc (.if_icmp .le off) 3 pc') (ht : (pc : Int) + off = (na : Int)) (kt : x ≤ y → zRW M k b na ls st n h Q) (kf : ¬ (x ≤ y) → zRW M k b pc' ls st n h Q) : zRW M k b pc ls (zI y :: zI x :: st) n h Q := by
  intro G d mc ms p l e s m args below meth c H locs cells slots lr hk C hl hst hH hS hc1 hc2 hz
  obtain ⟨hdec, rfl⟩ := hd
  have hx : z32 x := hst (zI x) (by simp)
  have hy : z32 y := hst (zI y) (by simp)
  refine lv_icmp_le C.1 C.2.1 hdec ht (fun hc => ?_) (fun hc => ?_)
  · rw [z32_le hx hy] at hc
    exact kt hc G d mc ms p l e s m args below meth c H locs cells slots lr hk C hl (fun q hq => hst q (by simp [hq])) hH hS hc1 hc2 hz
  · rw [z32_le hx hy] at hc
    exact kf hc G d mc ms p l e s m args below meth c H locs cells slots lr hk C hl (fun q hq => hst q (by simp [hq])) hH hS hc1 hc2 hz
theorem z_ile {off : Int} (hd : zDC M pc (.ifCond .le off) 3 pc') (ht : (pc : Int) + off = (na : Int)) (kt : x ≤ 0 → zRW M k b na ls st n h Q) (kf : ¬ (x ≤ 0) → zRW M k b pc' ls st n h Q) : zRW M k b pc ls (zI x :: st) n h Q := by
  intro G d mc ms p l e s m args below meth c H locs cells slots lr hk C hl hst hH hS hc1 hc2 hz
  obtain ⟨hdec, rfl⟩ := hd
  have hx : z32 x := hst (zI x) (by simp)
  have h00 : z32 0 := by unfold z32; omega
  refine lv_if_le C.1 C.2.1 hdec ht (fun hc => ?_) (fun hc => ?_)
  · rw [show (0 : Int32) = Int32.ofInt 0 from rfl, z32_le hx h00] at hc
    exact kt hc G d mc ms p l e s m args below meth c H locs cells slots lr hk C hl (fun q hq => hst q (by simp [hq])) hH hS hc1 hc2 hz
  · rw [show (0 : Int32) = Int32.ofInt 0 from rfl, z32_le hx h00] at hc
    exact kf hc G d mc ms p l e s m args below meth c H locs cells slots lr hk C hl (fun q hq => hst q (by simp [hq])) hH hS hc1 hc2 hz
end
