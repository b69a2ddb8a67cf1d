-- the relation behind names; calls that keep something
theorem rel_3 {h h1 h2 : zHp} (H : Rel h) {q : Int × Int} {PX PM : zHp → Prop} {v v' : Int} (hx : pX3 h q PX v h1) (hm : pM3 h1 q PM v' h2) (hf : q.2 = 0 → PX h1 → PM h2 → (∀ a : Nat, a < 117 → h2 a = h1 a) → rFound h2) : rOut h v v' h2 := by
  obtain ⟨a1, a2, a3, a4, a5⟩ := hx
  obtain ⟨b1, b2, b3, b4, b5⟩ := hm
  by_cases c : q.2 = 0
  · have L := (a4 c).1.tr (b4 c).1
    refine ⟨by rw [← a1, ← b1], Rel.exL L (by rw [b3 0 (by omega), a2, b2]) H (by simp) (by simp) (fun _ => hf c (a4 c).2 (b4 c).2 b3) (by simp) (by simp) (by simp) (by simp) (by simp) (by simp), ex200 L (by simp)⟩
  · exact H.tell2 ⟨a1, a2, a3, a5 c⟩ ⟨b1, b2, b3, b5 c⟩
theorem rel_names {h h1 h2 : zHp} (H : Rel h) {q : Int × Int} {c s : Int} {v v' : Int} (hx : pX3 h q (fun g => g 58 0 = 1 ∧ g 58 1 = c ∧ g 58 2 = s) v h1) (hm : pM3 h1 q (fun g => g 117 52 = 1 ∧ g 117 49 = c ∧ g 117 50 = s) v' h2) : rOut h v v' h2 :=
  rel_3 H hx hm (fun _ ⟨x0, x1, x2⟩ ⟨m0, m1, m2⟩ f => by
    unfold rFound
    rw [f 58 (by omega), x0, x1, x2, m0, m1, m2]
    exact ⟨rfl, Or.inr (Or.inl rfl), fun _ => rfl, fun _ => rfl, fun q => absurd q (by decide)⟩)
/-- an answer, its status, and, where C holds, what is kept of it (the cells of the components L) -/
def pXL (L : List Nat) (C : Prop) (h : zHp) (q : Int × Int) (P : zHp → Prop) (v : Int) (g : zHp) : Prop := q.1 = v ∧ g 0 0 = q.2 ∧ (∀ a : Nat, 117 ≤ a → g a = h a) ∧ (C → zEx L h g ∧ P g) ∧ (¬ C → zEx [] h g)
def pML (L : List Nat) (C : Prop) (h : zHp) (q : Int × Int) (P : zHp → Prop) (v : Int) (g : zHp) : Prop := q.1 = v ∧ g 117 0 = q.2 ∧ (∀ a : Nat, a < 117 → g a = h a) ∧ (C → zEx L h g ∧ P g) ∧ (¬ C → zEx [] h g)
theorem pXL_no {L : List Nat} {C : Prop} {h g : zHp} {q : Int × Int} {P : zHp → Prop} {v y : Int} (F : zXf h g) (e : q = (v, y)) (hc : ¬ C) : pXL L C h q P v (zup g 0 0 y) := by
  have r := pX0_f F e
  subst e
  exact ⟨r.1, r.2.1, r.2.2.1, fun q => absurd q hc, fun _ => r.2.2.2⟩
theorem pML_no {L : List Nat} {C : Prop} {h g f : zHp} {q : Int × Int} {P : zHp → Prop} {v y : Int} (hg : zup (zup h 117 1 0) 117 0 0 = g) (F : zMf g f) (e : q = (v, y)) (hc : ¬ C) : pML L C h q P v (zup f 117 0 y) := by
  have r := pM0_fr hg F e
  subst e
  exact ⟨r.1, r.2.1, r.2.2.1, fun q => absurd q hc, fun _ => r.2.2.2⟩
theorem pML_n0 {L : List Nat} {C : Prop} {h g f : zHp} {q : Int × Int} {P : zHp → Prop} {v : Int} (hg : zup (zup h 117 1 0) 117 0 0 = g) (F : zMf g f) (e : q = (v, 0)) (hc : ¬ C) : pML L C h q P v f := by
  have r := pM0_f hg F e
  subst e
  exact ⟨r.1, r.2.1, r.2.2.1, fun q => absurd q hc, fun _ => r.2.2.2⟩
