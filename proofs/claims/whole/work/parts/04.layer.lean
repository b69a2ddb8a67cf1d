-- THE LAYER: a method's run told over whole numbers. A value is a kind (0 int, 1 long, 2 a cell of ours, 3 a String constant, 4 its bytes, 5 the script, 9 nothing known) and a number; the heap of ours is a function (cell, place) to numbers.
abbrev zV : Type := Nat × Int
abbrev zHp : Type := Nat → Nat → Int
abbrev zM : Type := MethodName × ByteArray × Nat × Option FieldType
abbrev zG : Type := Nat × (Nat → ClassId) × (Nat → Nat → Nat) × (Nat → ClassId) × (Nat × Nat × (Nat → Int32)) × (Nat → Nat) × (Nat → Nat)
abbrev zI (v : Int) : zV := (0, v)
abbrev zJ (v : Int) : zV := (1, v)
abbrev zA (a : Nat) : zV := (2, Int.ofNat a)
abbrev zT (a : Nat) : zV := (3, Int.ofNat a)
abbrev zB (a : Nat) : zV := (4, Int.ofNat a)
abbrev zX : zV := (5, 0)
abbrev zU : zV := (9, 0)
abbrev zF (a : Int) : zV := (6, a)
def zw (x : Int) : Int := (x + 2147483648) % 4294967296 - 2147483648
def zl (x : Int) : Int := (x + 9223372036854775808) % 18446744073709551616 - 9223372036854775808
def z32 (x : Int) : Prop := -2147483648 ≤ x ∧ x < 2147483648
def z64 (x : Int) : Prop := -9223372036854775808 ≤ x ∧ x < 9223372036854775808
theorem zw_toInt (x : Int) : (Int32.ofInt x).toInt = zw x := by
  rw [Int32.toInt_ofInt, show (Int32.size : Nat) = 4294967296 from rfl]
  unfold Int.bmod zw
  dsimp only
  split <;> omega
theorem zl_toInt (x : Int) : (Int64.ofInt x).toInt = zl x := by
  rw [Int64.toInt_ofInt, show (Int64.size : Nat) = 18446744073709551616 from rfl]
  unfold Int.bmod zl
  dsimp only
  split <;> omega
theorem zw_r (x : Int) : z32 (zw x) := by unfold z32 zw; omega
theorem zl_r (x : Int) : z64 (zl x) := by unfold z64 zl; omega
theorem zw_id {x : Int} (h : z32 x) : zw x = x := by unfold z32 at h; unfold zw; omega
theorem zl_id {x : Int} (h : z64 x) : zl x = x := by unfold z64 at h; unfold zl; omega
theorem zw_of (x : Int) : Int32.ofInt (zw x) = Int32.ofInt x := by rw [← zw_toInt, Int32.ofInt_toInt]
theorem zl_of (x : Int) : Int64.ofInt (zl x) = Int64.ofInt x := by rw [← zl_toInt, Int64.ofInt_toInt]
theorem z32_toInt (x : Int32) : z32 x.toInt := by
  have h1 := x.toInt_lt
  have h2 := x.le_toInt
  unfold z32
  omega
theorem z64_toInt (x : Int64) : z64 x.toInt := by
  have h1 := x.toInt_lt
  have h2 := x.le_toInt
  unfold z64
  omega
theorem z32_ti {x : Int} (h : z32 x) : (Int32.ofInt x).toInt = x := by rw [zw_toInt, zw_id h]
theorem z64_ti {x : Int} (h : z64 x) : (Int64.ofInt x).toInt = x := by rw [zl_toInt, zl_id h]
theorem z32_eq {x y : Int} (hx : z32 x) (hy : z32 y) : Int32.ofInt x = Int32.ofInt y ↔ x = y := by
  rw [← Int32.toInt_inj, z32_ti hx, z32_ti hy]
theorem z32_lt {x y : Int} (hx : z32 x) (hy : z32 y) : Int32.ofInt x < Int32.ofInt y ↔ x < y := by
  rw [Int32.lt_iff_toInt_lt, z32_ti hx, z32_ti hy]
theorem z32_le {x y : Int} (hx : z32 x) (hy : z32 y) : Int32.ofInt x ≤ Int32.ofInt y ↔ x ≤ y := by
  rw [Int32.le_iff_toInt_le, z32_ti hx, z32_ti hy]
-- what the bit instructions answer
def zand (x y : Int) : Int := (Int32.ofInt x &&& Int32.ofInt y).toInt
def zor (x y : Int) : Int := (Int32.ofInt x ||| Int32.ofInt y).toInt
def zxor (x y : Int) : Int := (Int32.ofInt x ^^^ Int32.ofInt y).toInt
def zshl (x y : Int) : Int := (Int32.ofInt x <<< (Int32.ofInt y &&& 31)).toInt
def zshr (x y : Int) : Int := (Int32.ofInt x >>> (Int32.ofInt y &&& 31)).toInt
def zushr (x y : Int) : Int := ((Int32.ofInt x).toUInt32 >>> ((Int32.ofInt y).toUInt32 &&& Int32.toUInt32 31)).toInt32.toInt
def zdiv (x y : Int) : Int := (Int32.ofInt x / Int32.ofInt y).toInt
def zrem (x y : Int) : Int := (Int32.ofInt x - Int32.ofInt x / Int32.ofInt y * Int32.ofInt y).toInt
def zi2b (x : Int) : Int := (Int32.ofInt x).toInt8.toInt32.toInt
def zi2s (x : Int) : Int := (Int32.ofInt x).toInt16.toInt32.toInt
def zi2c (x : Int) : Int := ((Int32.ofInt x).toUInt32 % 65536).toInt32.toInt
def zl2i (x : Int) : Int := (Int64.ofInt x).toInt32.toInt
def zland (x y : Int) : Int := (Int64.ofInt x &&& Int64.ofInt y).toInt
def zlor (x y : Int) : Int := (Int64.ofInt x ||| Int64.ofInt y).toInt
def zlshl (x y : Int) : Int := (Int64.ofInt x <<< ((Int32.ofInt y).toInt64 &&& 63)).toInt
def zlshr (x y : Int) : Int := (Int64.ofInt x >>> ((Int32.ofInt y).toInt64 &&& 63)).toInt
def zldiv (x y : Int) : Int := (Int64.ofInt x / Int64.ofInt y).toInt
def zlrem (x y : Int) : Int := (Int64.ofInt x - Int64.ofInt x / Int64.ofInt y * Int64.ofInt y).toInt
def zcmp (x y : Int) : Int := if x < y then -1 else if y < x then 1 else 0
-- values in the machine's words
def zE (G : zG) (x : zV) : Value := match x.1 with
  | 0 => .int (Int32.ofInt x.2)
  | 1 => .long (Int64.ofInt x.2)
  | 2 => .ref (G.1 + x.2.toNat)
  | 3 => .ref (G.2.2.2.2.2.1 x.2.toNat)
  | 4 => .ref (G.2.2.2.2.2.2 x.2.toNat)
  | 6 => if x.2 < 0 then .null else .ref x.2.toNat
  | _ => .ref G.2.2.2.2.1.1
def zR (x : zV) : Prop := match x.1 with
  | 0 => z32 x.2
  | 1 => z64 x.2
  | _ => True
def zEF (G : zG) (ty : FieldType) (x : Int) : Value := match ty with
  | .long => .long (Int64.ofInt x)
  | .object _ => if x < 0 then .null else .ref (G.1 + x.toNat)
  | .array _ => if x < 0 then .null else .ref (G.1 + x.toNat)
  | _ => .int (Int32.ofInt x)
def zRF (ty : FieldType) (x : Int) : Prop := match ty with
  | .long => z64 x
  | .object _ => True
  | .array _ => True
  | .boolean => 0 ≤ x ∧ x ≤ 1
  | .byte => -128 ≤ x ∧ x ≤ 127
  | _ => z32 x
def zIsR (ty : FieldType) : Bool := match ty with
  | .object _ => true
  | .array _ => true
  | _ => false
def zTA (kd i : Nat) : FieldType := if kd < 13 then zTY kd i else zAT kd
-- the cells
def zGD (G : zG) : va_G := (G.2.1, G.2.2.1)
def zAf (G : zG) : Nat → Prop := fun q => G.1 ≤ q
def zD (G : zG) (kd : Nat) (f : Nat → Int) : (Nat → Int32) ⊕ (Nat → Int64) ⊕ (Nat → UInt32) ⊕ (Nat → UInt64) ⊕ (Nat → Option Nat) :=
  if kd = 21 then .inr (.inl (fun i => Int64.ofInt (f i))) else if kd < 24 then .inl (fun i => Int32.ofInt (f i)) else .inr (.inr (.inr (.inr (fun i => if f i < 0 then none else some (G.1 + (f i).toNat)))))
def zN (G : zG) (a : Nat) (f : Nat → Int) : va_E := match zSH[a]? with
  | none => .inr (0, [])
  | some (kd, sz) => if kd < 13 then .inr (kd, (List.range sz).map (fun k => zEF G (zTY kd k) (f k))) else .inl (G.2.2.2.1 (kd - 20), sz, zD G kd f)
def zWs (G : zG) (n : Nat) (h : zHp) : va_W := (List.range (min n 142)).map (fun a => (G.1 + a, zN G a (h a)))
def zTys (G : zG) : List (ClassId × FieldType) := (List.range 7).map (fun j => (G.2.2.2.1 j, zAT (20 + j)))
def zRg (n : Nat) (h : zHp) : Prop := ∀ a i kd sz : Nat, a < min n 142 → zSH[a]? = some (kd, sz) → i < sz → zRF (zTA kd i) (h a i)
def zRTa (a i : Nat) : Nat := ((zRT[a]?).getD []).getD i 0
def zWd (h : zHp) : Prop := ∀ a i kd sz : Nat, zSH[a]? = some (kd, sz) → i < sz → zIsR (zTA kd i) = true → h a i = Int.ofNat (zRTa a i)
-- the script stands in the heap's function as cell 200, its length as cell 201
def zSc (G : zG) (h : zHp) : Prop := (∀ j : Nat, j < G.2.2.2.2.1.2.1 → (G.2.2.2.2.1.2.2 j).toInt = h 200 j) ∧ h 201 0 = Int.ofNat G.2.2.2.2.1.2.1
def zH (G : zG) (n : Nat) (h : zHp) (H : Heap) : Prop := va_P (zGD G) zCL (zWs G n h) H ∧ zRg n h ∧ (142 < n → zWd h) ∧ zSc G h
-- the Strings: their texts, and where they are named
def zSLen : List Nat := zSTx.map (fun t => t.length)
def zSByt : List (List Int32) := zSTx.map (fun t => t.map (fun x => Int32.ofNat x))
def zTb : List Cond := lw_tbl.filter goodWord
theorem zTb_mem {w : Cond} (i : Nat) (h : lw_tbl[i]? = some w) (hg : goodWord w = true) : w ∈ zTb := List.mem_filter.mpr ⟨List.mem_of_getElem? h, hg⟩
theorem zTb_in {w : Cond} (h : w ∈ lw_tbl) (hg : goodWord w = true) : w ∈ zTb := List.mem_filter.mpr ⟨h, hg⟩
theorem zT1 {w : Cond} (i : Nat) (hi : tables_1_1[i]? = some w) (hg : goodWord w = true) : w ∈ zTb := zTb_in (by have h : w ∈ tables_1_1 := List.mem_of_getElem? hi; exact List.mem_append_right _ (show w ∈ tables_1 from List.mem_append_left _ h)) hg
theorem zT2 {w : Cond} (i : Nat) (hi : tables_1_2[i]? = some w) (hg : goodWord w = true) : w ∈ zTb := zTb_in (by have h : w ∈ tables_1_2 := List.mem_of_getElem? hi; exact List.mem_append_right _ (show w ∈ tables_1 from List.mem_append_right _ (List.mem_append_left _ h))) hg
theorem zT3 {w : Cond} (i : Nat) (hi : tables_1_3[i]? = some w) (hg : goodWord w = true) : w ∈ zTb := zTb_in (by have h : w ∈ tables_1_3 := List.mem_of_getElem? hi; exact List.mem_append_right _ (show w ∈ tables_1 from List.mem_append_right _ (List.mem_append_right _ (List.mem_append_left _ h)))) hg
theorem zT4 {w : Cond} (i : Nat) (hi : tables_1_4[i]? = some w) (hg : goodWord w = true) : w ∈ zTb := zTb_in (by have h : w ∈ tables_1_4 := List.mem_of_getElem? hi; exact List.mem_append_right _ (show w ∈ tables_1 from List.mem_append_right _ (List.mem_append_right _ (List.mem_append_right _ (List.mem_append_left _ h))))) hg
theorem zT5 {w : Cond} (i : Nat) (hi : tables_1_5[i]? = some w) (hg : goodWord w = true) : w ∈ zTb := zTb_in (by have h : w ∈ tables_1_5 := List.mem_of_getElem? hi; exact List.mem_append_right _ (show w ∈ tables_1 from List.mem_append_right _ (List.mem_append_right _ (List.mem_append_right _ (List.mem_append_right _ (List.mem_append_left _ h)))))) hg
theorem zT6 {w : Cond} (i : Nat) (hi : tables_1_6[i]? = some w) (hg : goodWord w = true) : w ∈ zTb := zTb_in (by have h : w ∈ tables_1_6 := List.mem_of_getElem? hi; exact List.mem_append_right _ (show w ∈ tables_1 from List.mem_append_right _ (List.mem_append_right _ (List.mem_append_right _ (List.mem_append_right _ (List.mem_append_right _ (List.mem_append_left _ h))))))) hg
theorem zT7 {w : Cond} (i : Nat) (hi : tables_1_7[i]? = some w) (hg : goodWord w = true) : w ∈ zTb := zTb_in (by have h : w ∈ tables_1_7 := List.mem_of_getElem? hi; exact List.mem_append_right _ (show w ∈ tables_1 from List.mem_append_right _ (List.mem_append_right _ (List.mem_append_right _ (List.mem_append_right _ (List.mem_append_right _ (List.mem_append_right _ (List.mem_append_left _ h)))))))) hg
theorem zT8 {w : Cond} (i : Nat) (hi : tables_1_8[i]? = some w) (hg : goodWord w = true) : w ∈ zTb := zTb_in (by have h : w ∈ tables_1_8 := List.mem_of_getElem? hi; exact List.mem_append_right _ (show w ∈ tables_1 from List.mem_append_right _ (List.mem_append_right _ (List.mem_append_right _ (List.mem_append_right _ (List.mem_append_right _ (List.mem_append_right _ (List.mem_append_right _ (List.mem_append_left _ h))))))))) hg
theorem zT9 {w : Cond} (i : Nat) (hi : tables_1_9[i]? = some w) (hg : goodWord w = true) : w ∈ zTb := zTb_in (by have h : w ∈ tables_1_9 := List.mem_of_getElem? hi; exact List.mem_append_right _ (show w ∈ tables_1 from List.mem_append_right _ (List.mem_append_right _ (List.mem_append_right _ (List.mem_append_right _ (List.mem_append_right _ (List.mem_append_right _ (List.mem_append_right _ (List.mem_append_right _ (h)))))))))) hg
theorem zTb_good {ws : List Cond} (h : ∀ w ∈ ws, w ∈ zTb) : GoodIn zTb ws := fun w hw => ⟨h w hw, good_of_word (List.mem_filter.mp (h w hw)).2⟩
def zK (G : zG) (U : State) : Prop := va_K (zGD G) zCL (zTys G) U ∧ G.1 ≤ U.heap.size ∧ (va_X G.2.2.2.2.1.1 G.2.2.2.2.1.2.1 G.2.2.2.2.1.2.2 U U.heap ∧ G.2.2.2.2.1.1 < G.1) ∧
  vk_S zSTx.length zSLen zSByt G.2.2.2.2.2.1 G.2.2.2.2.2.2 (zAf G) U U.heap ∧ (∀ q ∈ zSK, vk_R q.1 q.2.1 q.2.2.1 (G.2.2.2.2.2.1 q.2.2.2) U) ∧ va_Z "java/lang/String" "COMPACT_STRINGS" "Z" (.int 1) (zAf G) U U.heap ∧
  (∀ q ∈ zNe, va_Nw (.methodLinkNest q.1 q.2.1 q.2.2.1 q.2.2.2) U) ∧ (∀ C ∈ zAO, va_AO C U) ∧ va_Zq "jdk/internal/util/Preconditions" "SIOOBE_FORMATTER" "Ljava/util/function/BiFunction;" (zAf G) U U.heap
theorem zK.calling {G : zG} {U : State} (h : zK G U) (g : JFrame) (mk : MethodId) (a : Array Value) : zK G (U.calling g mk a) := by
  obtain ⟨h1, h2, ⟨h3, h3'⟩, h4, h5, h6, h7, h8, h9⟩ := h
  exact ⟨va_K.moved (u := U) (U := U.calling g mk a) (Vm.Alike.refl U.vm) h1, h2, ⟨va_X.moved (u := U) (U := U.calling g mk a) (Vm.Alike.refl U.vm) h3, h3'⟩, vk_S.moved (u := U) (U := U.calling g mk a) (Vm.Alike.refl U.vm) h4,
    fun q hq => vk_R.same (u := U) (U := U.calling g mk a) rfl (h5 q hq), va_Z.moved (u := U) (U := U.calling g mk a) (Vm.Alike.refl U.vm) h6, fun q hq => va_Nw.same (u := U) (U := U.calling g mk a) rfl rfl (h7 q hq), fun C hC => va_AO.moved (u := U) (U := U.calling g mk a) (Vm.Alike.refl U.vm) (h8 C hC), va_Zq.moved (u := U) (U := U.calling g mk a) (Vm.Alike.refl U.vm) h9⟩
theorem zK.go {G : zG} {s U : State} {locs : List Loc} (h : zK G s) (hW : s.WarmedH U.vm) (hS : va_S (zAf G) s.heap U.heap locs) : zK G U := by
  obtain ⟨h1, h2, ⟨h3, h3'⟩, h4, h5, h6, h7, h8, h9⟩ := h
  exact ⟨va_K.moved hW.alike h1, Nat.le_trans h2 hS.1, ⟨(va_X.moved hW.alike h3).kept (hS.2.1 _ (Nat.lt_of_lt_of_le h3' h2) (Nat.not_le.mpr h3')), h3'⟩, (vk_S.moved hW.alike h4).kept hS.2.1, fun q hq => vk_R.warm hW (h5 q hq), (va_Z.moved hW.alike h6).kept hS.2.1, fun q hq => va_Nw.warmM hW (h7 q hq), fun C hC => va_AO.moved hW.alike (h8 C hC), (va_Zq.moved hW.alike h9).kept hS.2.1⟩
-- locals
def zL (G : zG) (lr : Array Slot) (nL : Nat) (ls : List zV) : Prop := lr.size = nL ∧ lv_wf lr ∧ (∀ (i : Nat) (x : zV), ls[i]? = some x → ¬ x.1 = 9 → lr[i]? = some (.val (zE G x)) ∧ zR x) ∧ ls.length = nL
-- the room of a method that nests d deep
def zRm (d mc ms : Nat) : Room := { frames := d, cells := mc, slots := ms, locals := 64 * d }
def zC (G : zG) (M : zM) (p : Program) (s : State) (m : MethodId) (args : Array Value) (meth : Method) (c : Code) : Prop :=
  p.tables.exec = Jvm.exec ∧ c.code = M.2.1 ∧ c.maxLocals = M.2.2.1 ∧ meth.sig.returnType = M.2.2.2 ∧ meth.locks = false ∧ s.vm.findClass M.1.cls = some m.cls ∧ meth.name = M.1.name ∧ (∀ w ∈ zTb, w.before args s = true) ∧ zK G s
def zQC (G : zG) (Q : Option zV → Nat → zHp → Prop) : Array Value → State → Outcome → State → Prop := fun _ st o t => (∃ (r : Option zV) (n : Nat) (h : zHp), o = .returned (r.map (zE G)) ∧ (∀ x, r = some x → zR x) ∧ Q r n h ∧ zH G n h t.heap) ∧ va_F (zAf G) st t
def zPc (G : zG) (as : List zV) (n : Nat) (h : zHp) : Array Value → State → Prop := fun v U => v = (as.map (zE G)).toArray ∧ (∀ x ∈ as, zR x) ∧ zH G n h U.heap ∧ zK G U ∧ (n ≤ 142 → U.heap.size = G.1 + n)
/-- a method's contract: called with these at depth k, with so many cells and slots to be made, it ends, and Q holds of its answer and the heap -/
def zCall (M : zM) (k : Nat) (b : Nat × Nat) (as : List zV) (n : Nat) (h : zHp) (Q : Option zV → Nat → zHp → Prop) : Prop :=
  ∀ (l : Launch) (G : zG) (d : Nat), k ≤ d → Met l M.1 (.code M.1 M.2.1 M.2.2.1 M.2.2.2 :: zTb) (zRm d b.1 b.2) (zPc G as n h) (zQC G Q) b.1 b.2 (zAf G)
/-- a method's run from a place in its code -/
def zRW (M : zM) (k : Nat) (b : Nat × Nat) (pc : Nat) (ls st : List zV) (n : Nat) (h : zHp) (Q : Option zV → Nat → zHp → Prop) : Prop :=
  ∀ (G : zG) (d mc ms : Nat) (p : Program) (l : Launch) (e : Env) (s : State) (m : MethodId) (args : Array Value) (below : List Frame) (meth : Method) (c : Code) (H : Heap) (locs : List Loc) (cells slots : Nat) (lr : Array Slot),
    k ≤ d → zC G M p s m args meth c → zL G lr M.2.2.1 ls → (∀ x ∈ st, zR x) → zH G n h H → va_S (zAf G) s.heap H locs → cells + b.1 ≤ mc → slots + b.2 ≤ ms → (n ≤ 142 → s.heap.size + cells = G.1 + n) →
    W p l e (zRm d mc ms) s m args below meth c H locs cells slots (MQ below (zQC G Q) args s mc ms (zAf G)) (F0 m pc lr (st.map (zE G)))
def zDC (M : zM) (pc : Nat) (ins : Instr) (len pc' : Nat) : Prop := decode M.2.1 pc = .ok (ins, len) ∧ pc + len = pc'
