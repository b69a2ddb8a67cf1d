-- what the law finds at its start (written by wip/tools/specL4.py)
def zTmL : List Term := [.string "DoorList$Hall" 84, .string "DoorList$Hall" 122, .string "DoorList$Hall" 124, .string "DoorList$Hall" 94, .string "DoorList$Hall" 135, .string "DoorList$Hall" 136, .string "DoorList$Hall" 99, .string "DoorList$Rule" 52, .string "DoorList$Rule" 58, .string "DoorList$Rule" 59, .string "DoorList$Rule" 61, .string "DoorList$Rule" 63, .string "DoorList$Rule" 65, .string "DoorList$Acts" 68, .string "DoorList$Acts" 92, .string "DoorList$Acts" 94, .string "DoorList$Acts" 96, .string "DoorList$Acts" 100, .string "DoorList$Acts" 102, .string "DoorList$Acts" 104, .string "DoorList$Acts" 106, .string "DoorList$Acts" 127]
def zTm (i : Nat) : Term := zTmL.getD i (.arg 0)
def zGv : List Cond := flatC (Jvm.Cond.and given_1 narrow_1)
def zJ1 (l : List Nat) (i : Nat) : Nat := l.getD i 0
def zJ2 (l : List (List Nat)) (i j : Nat) : Nat := (l.getD i []).getD j 0
def zjE : List Nat := [48, 56, 64, 74, 85, 96, 110, 124, 140, 158, 175, 194, 213, 232, 252, 272, 295, 341, 368, 395, 423, 453]
def zjC : List Nat := [49, 57, 65, 75, 86, 97, 111, 125, 141, 159, 176, 195, 214, 233, 253, 273, 296, 342, 369, 396, 424, 454]
def zjA : List Nat := [50, 58, 66, 76, 87, 98, 112, 126, 142, 160, 177, 196, 215, 234, 254, 274, 297, 343, 370, 397, 425, 455]
def zjL : List Nat := [51, 59, 67, 77, 88, 99, 113, 127, 143, 161, 178, 197, 216, 235, 255, 275, 298, 344, 371, 398, 426, 456]
def zjX : List (List Nat) := [[52, 53, 54, 55], [60, 61, 62], [68, 69, 70, 71], [78, 79, 80, 81], [89, 90, 91], [100, 101, 102, 103, 104], [114, 115, 116, 117], [128, 129, 130, 131, 132], [144, 145, 146, 147, 148, 149], [162, 163, 164, 165], [179, 180, 181, 182, 183], [198, 199, 200, 201], [217, 218, 219], [236, 237, 238], [256, 257], [276, 277, 278, 279], [299, 300], [345, 346, 347, 348, 349], [372, 373, 374, 375], [399, 400, 401, 402], [427, 428, 429, 430, 431], [457, 458, 459]]
def zjN : List (List Nat) := [[0, 63, 72, 82, 92, 105, 118, 133, 150, 166, 184, 202, 220, 239, 258, 280, 301, 350, 376, 403, 432, 460], [0, 0, 73, 83, 93, 106, 119, 134, 151, 167, 185, 203, 221, 240, 259, 281, 302, 351, 377, 404, 433, 461], [0, 0, 0, 84, 94, 107, 120, 135, 152, 168, 186, 204, 222, 241, 260, 282, 303, 352, 378, 405, 434, 462], [0, 0, 0, 0, 95, 108, 121, 136, 153, 169, 187, 205, 223, 242, 261, 283, 304, 353, 379, 406, 435, 463], [0, 0, 0, 0, 0, 109, 122, 137, 154, 170, 188, 206, 224, 243, 262, 284, 305, 354, 380, 407, 436, 464], [0, 0, 0, 0, 0, 0, 123, 138, 155, 171, 189, 207, 225, 244, 263, 285, 306, 355, 381, 408, 437, 465], [0, 0, 0, 0, 0, 0, 0, 139, 156, 172, 190, 208, 226, 245, 264, 286, 307, 356, 382, 409, 438, 466], [0, 0, 0, 0, 0, 0, 0, 0, 157, 173, 191, 209, 227, 246, 265, 287, 308, 357, 383, 410, 439, 467], [0, 0, 0, 0, 0, 0, 0, 0, 0, 174, 192, 210, 228, 247, 266, 288, 309, 358, 384, 411, 440, 468], [0, 0, 0, 0, 0, 0, 0, 0, 0, 0, 193, 211, 229, 248, 267, 289, 310, 359, 385, 412, 441, 469], [0, 0, 0, 0, 0, 0, 0, 0, 0, 0, 0, 212, 230, 249, 268, 290, 311, 360, 386, 413, 442, 470], [0, 0, 0, 0, 0, 0, 0, 0, 0, 0, 0, 0, 231, 250, 269, 291, 312, 361, 387, 414, 443, 471], [0, 0, 0, 0, 0, 0, 0, 0, 0, 0, 0, 0, 0, 251, 270, 292, 313, 362, 388, 415, 444, 472], [0, 0, 0, 0, 0, 0, 0, 0, 0, 0, 0, 0, 0, 0, 271, 293, 314, 363, 389, 416, 445, 473], [0, 0, 0, 0, 0, 0, 0, 0, 0, 0, 0, 0, 0, 0, 0, 294, 315, 364, 390, 417, 446, 474], [0, 0, 0, 0, 0, 0, 0, 0, 0, 0, 0, 0, 0, 0, 0, 0, 316, 365, 391, 418, 447, 475], [0, 0, 0, 0, 0, 0, 0, 0, 0, 0, 0, 0, 0, 0, 0, 0, 0, 366, 392, 419, 448, 476], [0, 0, 0, 0, 0, 0, 0, 0, 0, 0, 0, 0, 0, 0, 0, 0, 0, 0, 394, 421, 450, 478], [0, 0, 0, 0, 0, 0, 0, 0, 0, 0, 0, 0, 0, 0, 0, 0, 0, 0, 0, 422, 451, 479], [0, 0, 0, 0, 0, 0, 0, 0, 0, 0, 0, 0, 0, 0, 0, 0, 0, 0, 0, 0, 452, 480], [0, 0, 0, 0, 0, 0, 0, 0, 0, 0, 0, 0, 0, 0, 0, 0, 0, 0, 0, 0, 0, 481], [0, 0, 0, 0, 0, 0, 0, 0, 0, 0, 0, 0, 0, 0, 0, 0, 0, 0, 0, 0, 0, 0]]
theorem zg_E : ∀ i : Nat, i < zSTx.length → zGv[zJ1 zjE i]? = some (Cond.exactly (zTm i) "java/lang/String") := by decide +kernel
theorem zg_C : ∀ i : Nat, i < zSTx.length → zGv[zJ1 zjC i]? = some (Cond.eq (.field (zTm i) "java/lang/String" "coder" "B") (.int 0)) := by decide +kernel
theorem zg_A : ∀ i : Nat, i < zSTx.length → zGv[zJ1 zjA i]? = some (Cond.arrayOf (.field (zTm i) "java/lang/String" "value" "[B") .byte) := by decide +kernel
theorem zg_L : ∀ i : Nat, i < zSTx.length → zGv[zJ1 zjL i]? = some (Cond.eq (.length (.field (zTm i) "java/lang/String" "value" "[B")) (.int (Int32.ofNat (zSLen.getD i 0)))) := by decide +kernel
theorem zg_X : ∀ i : Nat, i < zSTx.length → ∀ j : Nat, j < zSLen.getD i 0 → zGv[zJ2 zjX i j]? = some (Cond.eq (.elem (.field (zTm i) "java/lang/String" "value" "[B") (.int (Int32.ofNat j))) (.int ((zSByt.getD i []).getD j 0))) := by decide +kernel
theorem zg_N : ∀ i : Nat, i < zSTx.length → ∀ j : Nat, j < zSTx.length → i < j → zGv[zJ2 zjN i j]? = some (Cond.not (Cond.eq (zTm i) (zTm j))) := by decide +kernel
theorem zg_len : ∀ i : Nat, i < zSTx.length → zSLen.getD i 0 < 2 ^ 31 := by decide +kernel
theorem zin_S : ∀ q ∈ zSK, Cond.stringRef q.1 q.2.1 q.2.2.1 ∈ lw_tbl := List.forall_mem_cons.mpr ⟨(List.mem_append_right _ (List.mem_of_getElem? (i := 618) (by decide +kernel))), List.forall_mem_cons.mpr ⟨(List.mem_append_right _ (List.mem_of_getElem? (i := 682) (by decide +kernel))), List.forall_mem_cons.mpr ⟨(List.mem_append_right _ (List.mem_of_getElem? (i := 683) (by decide +kernel))), List.forall_mem_cons.mpr ⟨(List.mem_append_right _ (List.mem_of_getElem? (i := 684) (by decide +kernel))), List.forall_mem_cons.mpr ⟨(List.mem_append_right _ (List.mem_of_getElem? (i := 685) (by decide +kernel))), List.forall_mem_cons.mpr ⟨(List.mem_append_right _ (List.mem_of_getElem? (i := 686) (by decide +kernel))), List.forall_mem_cons.mpr ⟨(List.mem_append_right _ (List.mem_of_getElem? (i := 687) (by decide +kernel))), List.forall_mem_cons.mpr ⟨(List.mem_append_right _ (List.mem_of_getElem? (i := 760) (by decide +kernel))), List.forall_mem_cons.mpr ⟨(List.mem_append_right _ (List.mem_of_getElem? (i := 762) (by decide +kernel))), List.forall_mem_cons.mpr ⟨(List.mem_append_right _ (List.mem_of_getElem? (i := 763) (by decide +kernel))), List.forall_mem_cons.mpr ⟨(List.mem_append_right _ (List.mem_of_getElem? (i := 764) (by decide +kernel))), List.forall_mem_cons.mpr ⟨(List.mem_append_right _ (List.mem_of_getElem? (i := 765) (by decide +kernel))), List.forall_mem_cons.mpr ⟨(List.mem_append_right _ (List.mem_of_getElem? (i := 766) (by decide +kernel))), List.forall_mem_cons.mpr ⟨(List.mem_append_right _ (List.mem_of_getElem? (i := 1132) (by decide +kernel))), List.forall_mem_cons.mpr ⟨(List.mem_append_right _ (List.mem_of_getElem? (i := 1146) (by decide +kernel))), List.forall_mem_cons.mpr ⟨(List.mem_append_right _ (List.mem_of_getElem? (i := 1147) (by decide +kernel))), List.forall_mem_cons.mpr ⟨(List.mem_append_right _ (List.mem_of_getElem? (i := 1148) (by decide +kernel))), List.forall_mem_cons.mpr ⟨(List.mem_append_right _ (List.mem_of_getElem? (i := 1149) (by decide +kernel))), List.forall_mem_cons.mpr ⟨(List.mem_append_right _ (List.mem_of_getElem? (i := 1150) (by decide +kernel))), List.forall_mem_cons.mpr ⟨(List.mem_append_right _ (List.mem_of_getElem? (i := 1151) (by decide +kernel))), List.forall_mem_cons.mpr ⟨(List.mem_append_right _ (List.mem_of_getElem? (i := 1152) (by decide +kernel))), List.forall_mem_cons.mpr ⟨(List.mem_append_right _ (List.mem_of_getElem? (i := 1153) (by decide +kernel))), List.forall_mem_cons.mpr ⟨(List.mem_append_right _ (List.mem_of_getElem? (i := 1171) (by decide +kernel))), fun _ h => absurd h List.not_mem_nil⟩⟩⟩⟩⟩⟩⟩⟩⟩⟩⟩⟩⟩⟩⟩⟩⟩⟩⟩⟩⟩⟩⟩
theorem zin_N : ∀ q ∈ zNe, Cond.methodLinkNest q.1 q.2.1 q.2.2.1 q.2.2.2 ∈ lw_tbl := List.forall_mem_cons.mpr ⟨(List.mem_append_right _ (List.mem_of_getElem? (i := 34) (by decide +kernel))), List.forall_mem_cons.mpr ⟨(List.mem_append_right _ (List.mem_of_getElem? (i := 80) (by decide +kernel))), List.forall_mem_cons.mpr ⟨(List.mem_append_right _ (List.mem_of_getElem? (i := 183) (by decide +kernel))), List.forall_mem_cons.mpr ⟨(List.mem_append_right _ (List.mem_of_getElem? (i := 304) (by decide +kernel))), List.forall_mem_cons.mpr ⟨(List.mem_append_right _ (List.mem_of_getElem? (i := 426) (by decide +kernel))), fun _ h => absurd h List.not_mem_nil⟩⟩⟩⟩⟩
theorem zin_O : ∀ q ∈ zAO, Cond.arrayOver (.object q) ∈ lw_tbl := List.forall_mem_cons.mpr ⟨(List.mem_append_right _ (List.mem_of_getElem? (i := 31) (by decide +kernel))), List.forall_mem_cons.mpr ⟨(List.mem_append_right _ (List.mem_of_getElem? (i := 231) (by decide +kernel))), List.forall_mem_cons.mpr ⟨(List.mem_append_right _ (List.mem_of_getElem? (i := 232) (by decide +kernel))), fun _ h => absurd h List.not_mem_nil⟩⟩⟩
theorem zin_i : Cond.arrayClass .int ∈ lw_tbl := (List.mem_append_right _ (List.mem_of_getElem? (i := 156) (by decide +kernel)))
theorem zin_l : Cond.arrayClass .long ∈ lw_tbl := (List.mem_append_right _ (List.mem_of_getElem? (i := 155) (by decide +kernel)))
theorem zin_b : Cond.arrayClass .byte ∈ lw_tbl := (List.mem_append_right _ (List.mem_of_getElem? (i := 77) (by decide +kernel)))
theorem zin_z : Cond.arrayClass .boolean ∈ lw_tbl := (List.mem_append_right _ (List.mem_of_getElem? (i := 230) (by decide +kernel)))
theorem zin_c : Cond.laysStatic "java/lang/String" "COMPACT_STRINGS" "Z" ∈ lw_tbl := (List.mem_append_right _ (List.mem_of_getElem? (i := 632) (by decide +kernel)))
theorem zin_f : Cond.laysStatic "jdk/internal/util/Preconditions" "SIOOBE_FORMATTER" "Ljava/util/function/BiFunction;" ∈ lw_tbl := (List.mem_append_right _ (List.mem_of_getElem? (i := 648) (by decide +kernel)))
theorem zin_c1 : Cond.initialized "java/lang/String" ∈ lw_tbl := (List.mem_append_right _ (List.mem_of_getElem? (i := 16) (by decide +kernel)))
theorem zin_f1 : Cond.initialized "jdk/internal/util/Preconditions" ∈ lw_tbl := (List.mem_append_right _ (List.mem_of_getElem? (i := 18) (by decide +kernel)))
theorem zgv_c : Cond.eq (.static "java/lang/String" "COMPACT_STRINGS" "Z") (.int 1) ∈ zGv := (List.mem_of_getElem? (i := 4) (by decide +kernel))
theorem zgv_f : Cond.isRef (.static "jdk/internal/util/Preconditions" "SIOOBE_FORMATTER" "Ljava/util/function/BiFunction;") ∈ zGv := (List.mem_of_getElem? (i := 5) (by decide +kernel))
theorem zgv_o : Cond.eq (.string "DoorList$Hall" 135) (.string "DoorList$Acts" 98) ∈ zGv := (List.mem_of_getElem? (i := 328) (by decide +kernel))
theorem zin_I : ∀ q ∈ zCL, Cond.instantiable q.1 q.2.2 ∈ lw_tbl := List.forall_mem_cons.mpr ⟨(List.mem_append_right _ (List.mem_of_getElem? (i := 182) (by decide +kernel))), List.forall_mem_cons.mpr ⟨(List.mem_append_right _ (List.mem_of_getElem? (i := 357) (by decide +kernel))), List.forall_mem_cons.mpr ⟨(List.mem_append_right _ (List.mem_of_getElem? (i := 234) (by decide +kernel))), List.forall_mem_cons.mpr ⟨(List.mem_append_right _ (List.mem_of_getElem? (i := 387) (by decide +kernel))), List.forall_mem_cons.mpr ⟨(List.mem_append_right _ (List.mem_of_getElem? (i := 303) (by decide +kernel))), List.forall_mem_cons.mpr ⟨(List.mem_append_right _ (List.mem_of_getElem? (i := 79) (by decide +kernel))), List.forall_mem_cons.mpr ⟨(List.mem_append_right _ (List.mem_of_getElem? (i := 330) (by decide +kernel))), List.forall_mem_cons.mpr ⟨(List.mem_append_right _ (List.mem_of_getElem? (i := 158) (by decide +kernel))), List.forall_mem_cons.mpr ⟨(List.mem_append_right _ (List.mem_of_getElem? (i := 256) (by decide +kernel))), List.forall_mem_cons.mpr ⟨(List.mem_append_right _ (List.mem_of_getElem? (i := 33) (by decide +kernel))), List.forall_mem_cons.mpr ⟨(List.mem_append_right _ (List.mem_of_getElem? (i := 425) (by decide +kernel))), List.forall_mem_cons.mpr ⟨(List.mem_append_right _ (List.mem_of_getElem? (i := 23) (by decide +kernel))), List.forall_mem_cons.mpr ⟨(List.mem_append_right _ (List.mem_of_getElem? (i := 1220) (by decide +kernel))), fun _ h => absurd h List.not_mem_nil⟩⟩⟩⟩⟩⟩⟩⟩⟩⟩⟩⟩⟩
theorem zsk_e : ∀ q ∈ zSK, (Term.string q.1 q.2.1 = zTm q.2.2.2 ∧ q.2.2.2 < zSTx.length) ∨ q = ("DoorList$Acts", 98, "out", 4) := by decide +kernel
theorem z_arP {s : State} {args : Array Value} {ty : FieldType} (h : (Cond.arrayClass ty).before args s = true) : ∃ c : ClassId, ArrOfT s c ty ∧ s.vm.findClass ("[" ++ ty.toString) = some c := by
  obtain ⟨c, k, comp, h1, h2, h3⟩ := Cond.arrayClass_spec (args := args) (first := s) (o := none) (s := s) (idx := []) h
  exact ⟨c, fun n z => ⟨fun _ q => (by cases q), k, h2, comp, h3⟩, h1⟩
theorem z_arO {s : State} {args : Array Value} {C : String} (h : (Cond.arrayOver (.object C)).before args s = true) : ∃ c : ClassId, ArrOfT s c (.object C) ∧ va_RA s c (.object C) := by
  obtain ⟨comp, c, k, h1, -, h3, h4, h5⟩ := Cond.arrayOver_spec (args := args) (first := s) (o := none) (s := s) (idx := []) h
  exact ⟨c, fun n z => ⟨fun _ q => (by cases q), k, h3, comp, h4⟩, k, comp, h3, h4, h1, h5⟩
theorem zw_K {s : State} {b L : Nat} {xs : Nat → Int32} (hts : ∀ w ∈ lw_tbl, w.before #[Value.ref b] s = true) (hX : va_X b L xs s s.heap) (hbl : b < s.heap.size) (hgv : (Jvm.Cond.and given_1 narrow_1).before #[Value.ref b] s = true) :
    ∃ (dC : Nat → ClassId) (dI : Nat → Nat → Nat) (dA : Nat → ClassId) (adK adV : Nat → Nat), zK (s.heap.size, dC, dI, dA, (b, L, xs), adK, adV) s := by
  have hA : ∀ a : Nat, a < s.heap.size → ¬ (fun q : Nat => s.heap.size ≤ q) a := fun a h h2 => by have h3 : s.heap.size ≤ a := h2; omega
  have hz : ∀ w ∈ zTb, w.before #[Value.ref b] s = true := fun w hw => hts w (List.mem_filter.mp hw).1
  have hg : ∀ w ∈ zGv, w.before #[Value.ref b] s = true := flat_of_before _ hgv
  have hgi : ∀ {i : Nat} {w : Cond}, zGv[i]? = some w → w.before #[Value.ref b] s = true := fun h => hg _ (List.mem_of_getElem? h)
  have hcl : ∀ ci : Nat, ∃ d : ClassId × (Nat → Nat), ∀ q : vw_C, zCL[ci]? = some q → u_Kn s q.1 q.2.1 q.2.2 d.1 d.2 := by
    intro ci
    cases hc : zCL[ci]? with
    | none => exact ⟨(0, fun _ => 0), fun q h => by cases h⟩
    | some q =>
      obtain ⟨cC, iS, h⟩ := u_known (n := q.2.2) hz (z_cf ci q hc).1 (hts _ (zin_I q (List.mem_of_getElem? hc)))
      exact ⟨(cC, iS), fun q' h' => by cases h'; exact h⟩
  obtain ⟨D, hD⟩ := Classical.axiomOfChoice hcl
  have har : ∀ j : Nat, ∃ c : ClassId, j < 7 → ArrOfT s c (zAT (20 + j)) ∧ va_RA s c (zAT (20 + j)) := by
    intro j
    match j with
    | 0 => obtain ⟨c, h1, h2⟩ := z_arP (hts _ zin_i); exact ⟨c, fun _ => ⟨h1, h2⟩⟩
    | 1 => obtain ⟨c, h1, h2⟩ := z_arP (hts _ zin_l); exact ⟨c, fun _ => ⟨h1, h2⟩⟩
    | 2 => obtain ⟨c, h1, h2⟩ := z_arP (hts _ zin_b); exact ⟨c, fun _ => ⟨h1, h2⟩⟩
    | 3 => obtain ⟨c, h1, h2⟩ := z_arP (hts _ zin_z); exact ⟨c, fun _ => ⟨h1, h2⟩⟩
    | 4 => obtain ⟨c, h⟩ := z_arO (hts _ (zin_O "DoorList$Tray" (by decide))); exact ⟨c, fun _ => h⟩
    | 5 => obtain ⟨c, h⟩ := z_arO (hts _ (zin_O "DoorList$Hall" (by decide))); exact ⟨c, fun _ => h⟩
    | 6 => obtain ⟨c, h⟩ := z_arO (hts _ (zin_O "DoorList$Rule" (by decide))); exact ⟨c, fun _ => h⟩
    | j + 7 => exact ⟨0, fun h => by omega⟩
  obtain ⟨dA, hdA⟩ := Classical.axiomOfChoice har
  obtain ⟨adK, adV, hS, hev⟩ := vk_Sof (args := #[Value.ref b]) (s := s) (N := zSTx.length) (tm := zTm) (len := zSLen) (byt := zSByt) (A := fun q : Nat => s.heap.size ≤ q) zg_len (fun i hi => hgi (zg_E i hi)) (fun i hi => hgi (zg_C i hi)) (fun i hi => hgi (zg_A i hi)) (fun i hi => hgi (zg_L i hi)) (fun i hi j hj => hgi (zg_X i hi j hj)) (fun i j hi hj hij => by
    by_cases z : i < j
    · exact Or.inl (hgi (zg_N i hi j hj z))
    · exact Or.inr (hgi (zg_N j hj i hi (by omega)))) hA
  refine ⟨fun c => (D c).1, fun c => (D c).2, dA, adK, adV, ⟨fun c q hq => hD c q hq, fun k q hk => ?_⟩, Nat.le_refl _, ⟨hX, hbl⟩, hS, fun q hq => ?_, va_Zof (hts _ zin_c) (hts _ zin_c1) (va_eqi (hg _ zgv_c)) hA, fun q hq => va_Nw.of rfl (hts _ (zin_N q hq)), fun C hC => va_AO.of (hts _ (zin_O C hC)), va_Zqof (hts _ zin_f) (hts _ zin_f1) (hg _ zgv_f) hA⟩
  · have hk7 : k < 7 := by
      have := (List.getElem?_eq_some_iff.mp hk).1
      simpa [zTys] using this
    have e : q = (dA k, zAT (20 + k)) := by
      have h2 : (zTys (s.heap.size, (fun c => (D c).1), (fun c => (D c).2), dA, (b, L, xs), adK, adV))[k]? = some (dA k, zAT (20 + k)) := by
        unfold zTys
        rw [List.getElem?_map, List.getElem?_range hk7]
        rfl
      rw [h2] at hk
      cases hk
      rfl
    subst e
    exact hdA k hk7
  · rcases zsk_e q hq with ⟨h1, h2⟩ | rfl
    · exact vk_R.of (hts _ (zin_S q hq)) (by rw [h1]; exact hev _ h2)
    · exact vk_R.of (hts _ (zin_S _ hq)) (va_eqR (hg _ zgv_o) (hev 4 (by decide)))
