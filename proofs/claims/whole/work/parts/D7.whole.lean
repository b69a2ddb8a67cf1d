/-! THE CLAIM OUT OF ONE WALK OF THE LAW'S BODY. Your part is whole_start (and what it stands on); all else here is the same for every law, but numbers. -/
def R_law : String := "DoorListLaw"
def lw_P (b : Addr) (xs : List Int32) (args : Array Value) (s : State) : Prop := args = #[.ref b] ∧ s.IntsAt b xs ∧ xs.length ≤ 3072 ∧ (Jvm.Cond.and given_1 narrow_1).before args s = true
def lw_Q (_ : Array Value) (s : State) (o : Outcome) (t : State) : Prop := o = .returned (some (.int 1)) ∧ Framed s o t [] 600000 7302249
def lw_Z (below : List Frame) (a : Array Value) (s : State) : State → Prop := fun t => ∃ o, t.status = .running ∧ Ended t below o ∧ lw_Q a s o t
/-- the law's own end, with 1 on the stack, nothing written that was there before, its room as the claim has it -/
theorem lw_ret {p : Program} {l : Launch} {e : Env} {s : State} {m : MethodId} {below : List Frame} {meth : Method} {c : Code} {b : Nat} (hx : p.tables.exec = Jvm.exec) (hb : c.code = code) (hr : meth.sig.returnType = ret) (hlocks : meth.locks = false) {pc : Nat} {H : Heap} {ls : Array Slot} (hdg : decode code pc = .ok (.ireturn, 1)) : W p l e room_1 s m #[Value.ref b] below meth c H [] 600000 7302249 (lw_Z below #[Value.ref b] s) (F0 m pc ls [.int 1]) := by
  intro T hT X
  obtain ⟨fs, hret, hrun, hended, hW, hframe⟩ := X.leave (v := some (.int 1)) (hlocks := hlocks) (fun h => by rw [hr] at h; cases h)
  have hmeth' : T.vm.method? m = some meth := X.method'
  refine ⟨T.setFrames fs, ?_, .returned (some (.int 1)), hrun, hended, rfl, ⟨_, rfl⟩, hW, hframe⟩
  jvm_step X.here [X.here.top, hx, hb, hdg, hmeth', hr, ret, narrow_b1]
  (try refine ⟨rfl, ?_⟩); (try refine ⟨rfl, ?_⟩)
  first | (intro acts; rw [hret _ acts rfl rfl rfl]) | rw [hret _ _ rfl rfl rfl]
  exact Steps.refl _
/-- what holds at the law's entry: the machine, the code, the tables' words (any of lw_tbl by 'hts w (by decide +kernel)'), the script of L ints xs at the cell b, what the Statement gives of the start (any of its parts by flat_of_before) -/
def lw_At (p : Program) (s : State) (m : MethodId) (meth : Method) (c : Code) (b L : Nat) (xs : Nat → Int32) : Prop :=
  p.tables.exec = Jvm.exec ∧ c.code = code ∧ meth.sig.returnType = ret ∧ c.maxLocals = 4 ∧ s.vm.findClass R_law = some m.cls ∧ (∀ w ∈ lw_tbl, w.before #[Value.ref b] s = true) ∧ va_X b L xs s s.heap ∧ b < s.heap.size ∧ meth.locks = false ∧ (Jvm.Cond.and given_1 narrow_1).before #[Value.ref b] s = true
theorem whole_start {p : Program} {e : Env} {s : State} {m : MethodId} {below : List Frame} {meth : Method} {c : Code} (l : Launch) {b L : Nat} {xs : Nat → Int32} (hL : L ≤ 3072) (hname : meth.name = "law") (C0 : lw_At p s m meth c b L xs) : W p l e room_1 s m #[Value.ref b] below meth c s.heap [] 0 0 (lw_Z below #[Value.ref b] s) (entryFrame m ([Value.ref b] : List Value).toArray 4) := by
  obtain ⟨hx, hb, hr, hml, hown, hts, hX, hbl, hlocks, hgv⟩ := id C0
  obtain ⟨dC, dI, dA, adK, adV, hK⟩ := zw_K hts hX hbl hgv
  have hz : ∀ w ∈ zTb, w.before #[Value.ref b] s = true := fun w hw => hts w (List.mem_filter.mp hw).1
  have hH : zH (s.heap.size, dC, dI, dA, (b, L, xs), adK, adV) 0 (h00 (fun j => (xs j).toInt) (Int.ofNat L)) s.heap := ⟨fun k q h => by simp [zWs] at h, fun a i kd sz h => by simp at h, fun h => by omega, fun j _ => rfl, rfl⟩
  rw [lg_entry_eq]
  intro T hT X
  have rm : s.hasRoom e.platform (zRm 1312 600000 7302249) = true := by
    have q := X.room
    simp only [State.hasRoom, Bool.and_eq_true, decide_eq_true_eq, room_1, zRm] at q ⊢
    refine ⟨?_, q.2⟩
    refine ⟨?_, q.1.2⟩
    refine ⟨?_, q.1.1.2⟩
    have q1 := q.1.1.1.1
    have q2 := q.1.1.1.2
    refine ⟨decide_eq_true (by have := of_decide_eq_true q1; omega), ?_⟩
    exact decide_eq_true ⟨by have := of_decide_eq_true q2; omega, by have := of_decide_eq_true q2; omega, by have := of_decide_eq_true q2; omega, by have := of_decide_eq_true q2; omega, (of_decide_eq_true q2).2.2.2.2⟩
  have X2 : Stand p l e (zRm 1312 600000 7302249) s m #[Value.ref b] below meth c T [] 0 0 := { X with room := rm }
  obtain ⟨t, a1, o, b1, b2, ⟨⟨r, n, h, ho, -, hq, -⟩, -⟩, Ls, ⟨f1, f2, f3⟩, hfr⟩ := law_z (fun j => (xs j).toInt) (Int.ofNat L) (by have : Int.ofNat L = (L : Int) := rfl; omega) (by have : Int.ofNat L = (L : Int) := rfl; omega) (s.heap.size, dC, dI, dA, (b, L, xs), adK, adV) 1312 600000 7302249 p l e s m #[Value.ref b] below meth c s.heap [] 0 0 _ (by decide) ⟨hx, hb, hml, hr, hlocks, hown, hname, hz, hK⟩ (zL_entry (s.heap.size, dC, dI, dA, (b, L, xs), adK, adV) [zX] 4 [zX, zU, zU, zU] (fun x hx => by simp only [List.mem_singleton] at hx; subst hx; exact trivial) (Nat.le_of_ble_eq_true rfl) rfl) (fun x hx => by cases hx) hH va_S.rf (by decide) (by decide) (fun _ => rfl) T hT X2
  obtain ⟨-, v, rfl, rfl⟩ := hq
  have ho : o = .returned (some (.int 1)) := ho
  exact ⟨t, a1, o, b1, b2, ho, f1, f2, f3.weaken (fun y hy hlt => absurd hlt (Nat.not_lt.mpr (hfr y hy))) (Nat.le_refl _) (Nat.le_refl _)⟩
