-- each call: class, then reference (written by wip/tools/specL1.py)
def mT60 (h : zHp) : Prop := ∀ t : Nat, t < 4 → h 119 t ≤ 60
theorem Rel.t60 {h h1 : zHp} (H : Rel h) (hi : ∀ a : Nat, 117 ≤ a → h1 a = h a) : ∀ t : Nat, t < 4 → h1 119 t ≤ 60 := fun t ht => by rw [hi 119 (by omega)]; exact (H.2.1 t ht).1.2
theorem Rel.db {h : zHp} (H : Rel h) : dB (h 122) := H.2.2.2.2.2.1.1.1
theorem Rel.st {h : zHp} (H : Rel h) : h 122 2 < ((2 ^ nN (h 122) : Nat) : Int) := H.2.2.2.2.2.1.1.2.1
theorem zCj.wkn {M : zM} {k : Nat} {as : List zV} {h : zHp} {Q Q' : Int → zHp → Prop} (H : zCj M k as h Q) (f : ∀ v h', Q v h' → Q' v h') : zCj M k as h Q' := zCall.wkn H (fun r n h2 q => ⟨q.1, q.2.choose, q.2.choose_spec.1, f _ _ q.2.choose_spec.2⟩)
def kp (h h1 : zHp) : Prop := h1 200 = h 200 ∧ h1 201 = h 201
theorem kp_hi {h h1 : zHp} (hi : ∀ a : Nat, 117 ≤ a → h1 a = h a) : kp h h1 := ⟨hi 200 (by omega), hi 201 (by omega)⟩
theorem b_status (h : zHp) (H : Rel h) : zCi mX11_status 0 [zA 0] h (fun v h1 => kp h h1 ∧ zCi mX12_status 0 [zA 117] h1 (fun v2 h2 => rOut h v v2 h2)) := by
  refine (x_status h H.1).wkn (fun v h1 px => ?_)
  have hi : ∀ a : Nat, 117 ≤ a → h1 a = h a := px.2.2.1
  refine ⟨kp_hi hi, (r_status h1 ).wkn (fun v2 h2 pm => ?_)⟩
  rw [hi 117 (by omega)] at pm
  exact H.tell2 px pm
theorem b_top (h : zHp) (H : Rel h) : zCj mX11_top 0 [zA 0] h (fun v h1 => kp h h1 ∧ zCj mX12_top 0 [zA 117] h1 (fun v2 h2 => rOut h v v2 h2)) := by
  refine (x_top h H.2.2.2.2.2.2.2.2.2 H.1).wkn (fun v h1 px => ?_)
  have hi : ∀ a : Nat, 117 ≤ a → h1 a = h a := px.2.2.1
  refine ⟨kp_hi hi, (r_top h1 ).wkn (fun v2 h2 pm => ?_)⟩
  rw [hi 117 (by omega)] at pm
  exact H.tell2 px pm
theorem b_bottom (h : zHp) (H : Rel h) : zCj mX11_bottom 0 [zA 0] h (fun v h1 => kp h h1 ∧ zCj mX12_bottom 0 [zA 117] h1 (fun v2 h2 => rOut h v v2 h2)) := by
  refine (x_bottom h H.2.2.2.2.2.2.2.2.2 H.1).wkn (fun v h1 px => ?_)
  have hi : ∀ a : Nat, 117 ≤ a → h1 a = h a := px.2.2.1
  refine ⟨kp_hi hi, (r_bottom h1 ).wkn (fun v2 h2 pm => ?_)⟩
  rw [hi 117 (by omega)] at pm
  exact H.tell2 px pm
theorem b_read (h : zHp) (H : Rel h) (t k : Int) : zCj mX11_read 2 [zA 0, zI t, zI k] h (fun v h1 => kp h h1 ∧ zCj mX12_read 2 [zA 117, zI t, zI k] h1 (fun v2 h2 => rOut h v v2 h2)) := by
  refine (x_read h H.2.1 t k).wkn (fun v h1 px => ?_)
  have hi : ∀ a : Nat, 117 ≤ a → h1 a = h a := px.2.2.1
  refine ⟨kp_hi hi, (r_read h1 (H.t60 hi) t k).wkn (fun v2 h2 pm => ?_)⟩
  have eq : qRead h1 t k = qRead h t k := by
    unfold qRead cCell
    rw [hi 119 (by omega), hi 120 (by omega)]
  rw [eq] at pm
  exact H.tell2 px pm
theorem b_fault (h : zHp) (H : Rel h) (x : Int) : zCi mX11_fault 0 [zA 0, zI x] h (fun v h1 => kp h h1 ∧ zCi mX12_fault 0 [zA 117, zI x] h1 (fun v2 h2 => rOut h v v2 h2)) := by
  refine (x_fault h H.2.2.1 H.1 x).wkn (fun v h1 px => ?_)
  have hi : ∀ a : Nat, 117 ≤ a → h1 a = h a := px.2.2.1
  refine ⟨kp_hi hi, (r_fault h1 x).wkn (fun v2 h2 pm => ?_)⟩
  have eq : qFault h1 x = qFault h x := by
    unfold qFault
    rw [hi 117 (by omega)]
  rw [eq] at pm
  exact H.tell2 px pm
theorem b_many (h : zHp) (H : Rel h) (x : Int) : zCi mX11_many 1 [zA 0, zI x] h (fun v h1 => kp h h1 ∧ zCi mX12_many 1 [zA 117, zI x] h1 (fun v2 h2 => rOut h v v2 h2)) := by
  refine (x_many h H.2.2.2.2.2.1 x).wkn (fun v h1 px => ?_)
  have hi : ∀ a : Nat, 117 ≤ a → h1 a = h a := px.2.2.1
  refine ⟨kp_hi hi, (r_many h1 (h 122) (hi 122 (by omega)) H.db H.st x).wkn (fun v2 h2 pm => ?_)⟩
  exact H.tell2 px pm
theorem b_name (h : zHp) (H : Rel h) (k x : Int) : zCi mX11_name 1 [zA 0, zI k, zI x] h (fun v h1 => kp h h1 ∧ zCi mX12_name 2 [zA 117, zI k, zI x] h1 (fun v2 h2 => rOut h v v2 h2)) := by
  refine (x_name h H.2.2.2.2.2.1 k x).wkn (fun v h1 px => ?_)
  have hi : ∀ a : Nat, 117 ≤ a → h1 a = h a := px.2.2.1
  refine ⟨kp_hi hi, (r_name h1 (h 122) (hi 122 (by omega)) H.db H.st k x).wkn (fun v2 h2 pm => ?_)⟩
  exact H.tell2 px pm
theorem b_sort (h : zHp) (H : Rel h) (s x : Int) : zCi mX11_sort 1 [zA 0, zI s, zI x] h (fun v h1 => kp h h1 ∧ zCi mX12_sort 2 [zA 117, zI s, zI x] h1 (fun v2 h2 => rOut h v v2 h2)) := by
  refine (x_sort h H.2.2.2.2.2.1 s x).wkn (fun v h1 px => ?_)
  have hi : ∀ a : Nat, 117 ≤ a → h1 a = h a := px.2.2.1
  refine ⟨kp_hi hi, (r_sort h1 (h 122) (hi 122 (by omega)) H.db H.st s x).wkn (fun v2 h2 pm => ?_)⟩
  exact H.tell2 px pm
theorem b_order (h : zHp) (H : Rel h) (s k : Int) : zCi mX11_order 1 [zA 0, zI s, zI k] h (fun v h1 => kp h h1 ∧ zCi mX12_order 2 [zA 117, zI s, zI k] h1 (fun v2 h2 => rOut h v v2 h2)) := by
  refine (x_order h H.2.2.2.2.2.1 s k).wkn (fun v h1 px => ?_)
  have hi : ∀ a : Nat, 117 ≤ a → h1 a = h a := px.2.2.1
  refine ⟨kp_hi hi, (r_order h1 (h 122) (hi 122 (by omega)) H.db H.st s k).wkn (fun v2 h2 pm => ?_)⟩
  exact H.tell2 px pm
theorem b_wins (h : zHp) (H : Rel h) : zCi mX11_wins 4 [zA 0] h (fun v h1 => kp h h1 ∧ zCi mX12_wins 8 [zA 117] h1 (fun v2 h2 => rOut h v v2 h2)) := by
  refine (x_wins h H.2.2.2.2.2.1 ).wkn (fun v h1 px => ?_)
  have hi : ∀ a : Nat, 117 ≤ a → h1 a = h a := px.2.2.1
  refine ⟨kp_hi hi, (r_wins h1 (h 122) (hi 122 (by omega)) H.db H.st ).wkn (fun v2 h2 pm => ?_)⟩
  exact H.tell2 px pm
theorem b_firsts (h : zHp) (H : Rel h) (k : Int) : zCi mX11_firsts 2 [zA 0, zI k] h (fun v h1 => kp h h1 ∧ zCi mX12_firsts 2 [zA 117, zI k] h1 (fun v2 h2 => rOut h v v2 h2)) := by
  refine (x_firsts h H.2.2.2.2.2.1 k).wkn (fun v h1 px => ?_)
  have hi : ∀ a : Nat, 117 ≤ a → h1 a = h a := px.2.2.1
  refine ⟨kp_hi hi, (r_firsts h1 (h 122) (hi 122 (by omega)) H.db H.st k).wkn (fun v2 h2 pm => ?_)⟩
  exact H.tell2 px pm
theorem b_beats (h : zHp) (H : Rel h) (a b : Int) : zCi mX11_beats 1 [zA 0, zI a, zI b] h (fun v h1 => kp h h1 ∧ zCi mX12_beats 2 [zA 117, zI a, zI b] h1 (fun v2 h2 => rOut h v v2 h2)) := by
  refine (x_beatsC h H.2.2.2.2.2.1 a b).wkn (fun v h1 px => ?_)
  have hi : ∀ a : Nat, 117 ≤ a → h1 a = h a := px.2.2.1
  refine ⟨kp_hi hi, (r_beatsC h1 (h 122) (hi 122 (by omega)) H.db H.st a b).wkn (fun v2 h2 pm => ?_)⟩
  exact H.tell2 px pm
theorem b_left (h : zHp) (H : Rel h) (n : Int) : zCi mX11_left 3 [zA 0, zI n] h (fun v h1 => kp h h1 ∧ zCi mX12_left 6 [zA 117, zI n] h1 (fun v2 h2 => rOut h v v2 h2)) := by
  refine (x_left h H.2.2.2.2.2.1 n).wkn (fun v h1 px => ?_)
  have hi : ∀ a : Nat, 117 ≤ a → h1 a = h a := px.2.2.1
  refine ⟨kp_hi hi, (r_left h1 (h 122) (hi 122 (by omega)) H.db H.st n).wkn (fun v2 h2 pm => ?_)⟩
  exact H.tell2 px pm
theorem b_parted (h : zHp) (H : Rel h) (x : Int) : zCi mX11_parted 6 [zA 0, zI x] h (fun v h1 => kp h h1 ∧ zCi mX12_parted 9 [zA 117, zI x] h1 (fun v2 h2 => rOut h v v2 h2)) := by
  refine (x_parted h H.2.2.2.2.2.1 x).wkn (fun v h1 px => ?_)
  have hi : ∀ a : Nat, 117 ≤ a → h1 a = h a := px.2.2.1
  refine ⟨kp_hi hi, (r_parted h1 (h 122) (hi 122 (by omega)) H.db H.st x).wkn (fun v2 h2 pm => ?_)⟩
  exact H.tell2 px pm
theorem b_parting (h : zHp) (H : Rel h) (k : Int) : zCi mX11_parting 6 [zA 0, zI k] h (fun v h1 => kp h h1 ∧ zCi mX12_parting 9 [zA 117, zI k] h1 (fun v2 h2 => rOut h v v2 h2)) := by
  refine (x_parting h H.2.2.2.2.2.1 k).wkn (fun v h1 px => ?_)
  have hi : ∀ a : Nat, 117 ≤ a → h1 a = h a := px.2.2.1
  refine ⟨kp_hi hi, (r_parting h1 (h 122) (hi 122 (by omega)) H.db H.st k).wkn (fun v2 h2 pm => ?_)⟩
  exact H.tell2 px pm
theorem b_cousins (h : zHp) (H : Rel h) : zCi mX11_cousins 4 [zA 0] h (fun v h1 => kp h h1 ∧ zCi mX12_cousins 8 [zA 117] h1 (fun v2 h2 => rOut h v v2 h2)) := by
  refine (x_cousins h H.2.2.2.2.2.1 ).wkn (fun v h1 px => ?_)
  have hi : ∀ a : Nat, 117 ≤ a → h1 a = h a := px.2.2.1
  refine ⟨kp_hi hi, (r_cousins h1 (h 122) (hi 122 (by omega)) H.db H.st ).wkn (fun v2 h2 pm => ?_)⟩
  exact H.tell2 px pm
theorem b_alike (h : zHp) (H : Rel h) (a b : Int) : zCi mX11_alike 2 [zA 0, zI a, zI b] h (fun v h1 => kp h h1 ∧ zCi mX12_alike 2 [zA 117, zI a, zI b] h1 (fun v2 h2 => rOut h v v2 h2)) := by
  refine (x_alike h H.2.2.2.2.2.1 a b).wkn (fun v h1 px => ?_)
  have hi : ∀ a : Nat, 117 ≤ a → h1 a = h a := px.2.2.1
  refine ⟨kp_hi hi, (r_alike h1 (h 122) (hi 122 (by omega)) H.db H.st a b).wkn (fun v2 h2 pm => ?_)⟩
  exact H.tell2 px pm
theorem b_found (h : zHp) (H : Rel h) (x : Int) : zCi mX11_found 1 [zA 0, zI x] h (fun v h1 => kp h h1 ∧ zCi mX12_found 1 [zA 117, zI x] h1 (fun v2 h2 => rOut h v v2 h2)) := by
  refine (x_found h H.2.2.2.1 x).wkn (fun v h1 px => ?_)
  have hi : ∀ a : Nat, 117 ≤ a → h1 a = h a := px.2.2.1
  refine ⟨kp_hi hi, (r_found h1 x).wkn (fun v2 h2 pm => ?_)⟩
  have eq : qFound h1 x = qFound h x := by
    unfold qFound
    rw [hi 117 (by omega)]
  rw [eq] at pm
  exact H.tell2 px pm
theorem b_moved (h : zHp) (H : Rel h) (x : Int) : zCi mX11_moved 1 [zA 0, zI x] h (fun v h1 => kp h h1 ∧ zCi mX12_moved 1 [zA 117, zI x] h1 (fun v2 h2 => rOut h v v2 h2)) := by
  refine (x_moved h H.2.2.2.1 x).wkn (fun v h1 px => ?_)
  have hi : ∀ a : Nat, 117 ≤ a → h1 a = h a := px.2.2.1
  have hf : rFound h1 := rFound_oc (px.2.2.2 3 (by omega) (by omega) (by simp)) H.2.2.2.1
  refine ⟨kp_hi hi, (r_moved h1 hf x).wkn (fun v2 h2 pm => ?_)⟩
  have eq : qMoved h1 x = qMoved h x := by
    unfold qMoved
    rw [hi 117 (by omega), hi 138 (by omega)]
  rw [eq] at pm
  exact H.tell2 px pm
theorem b_opening (h : zHp) (H : Rel h) (hz : h 117 62 = 0 ∨ h 117 62 = 1) : zCi mX11_opening 1 [zA 0] h (fun v h1 => kp h h1 ∧ zCi mX12_opening 1 [zA 117] h1 (fun v2 h2 => rOut h v v2 h2)) := by
  refine (x_opening h H.2.2.2.2.1 hz).wkn (fun v h1 px => ?_)
  have hi : ∀ a : Nat, 117 ≤ a → h1 a = h a := px.2.2.1
  refine ⟨kp_hi hi, (r_opening h1 ).wkn (fun v2 h2 pm => ?_)⟩
  have eq : qOpen h1 = qOpen h := by
    unfold qOpen
    rw [hi 117 (by omega)]
  rw [eq] at pm
  exact H.tell2 px pm
theorem b_told (h : zHp) (H : Rel h) (t n : Int) : zCi mX11_told 4 [zA 0, zI t, zI n] h (fun v h1 => kp h h1 ∧ zCi mX12_told 7 [zA 117, zI t, zI n] h1 (fun v2 h2 => rOut h v v2 h2)) := by
  refine (x_told h H.2.2.2.2.2.1 H.2.1 t n).wkn (fun v h1 px => ?_)
  have hi : ∀ a : Nat, 117 ≤ a → h1 a = h a := px.2.2.1
  refine ⟨kp_hi hi, (r_told h1 (h 122) (hi 122 (by omega)) H.db H.st (H.t60 hi) t n).wkn (fun v2 h2 pm => ?_)⟩
  have eN : ∀ j : Nat, nums h1 j = nums h j := fun j => by funext i; unfold nums; rw [hi 120 (by omega)]
  have eq : qTold h1 (h 122) t n = qTold h (h 122) t n := by
    unfold qTold cWhy
    rw [eN, hi 119 (by omega)]
  rw [eq] at pm
  exact H.tell2 px pm
theorem b_cost (h : zHp) (H : Rel h) (t n : Int) : zCi mX11_cost 4 [zA 0, zI t, zI n] h (fun v h1 => kp h h1 ∧ zCi mX12_cost 3 [zA 117, zI t, zI n] h1 (fun v2 h2 => rOut h v v2 h2)) := by
  refine (x_costC h H.2.2.2.2.2.1 H.2.1 t n).wkn (fun v h1 px => ?_)
  have hi : ∀ a : Nat, 117 ≤ a → h1 a = h a := px.2.2.1
  refine ⟨kp_hi hi, (r_costC h1 (h 122) (hi 122 (by omega)) H.db H.st (H.t60 hi) t n).wkn (fun v2 h2 pm => ?_)⟩
  have eN : ∀ j : Nat, nums h1 j = nums h j := fun j => by funext i; unfold nums; rw [hi 120 (by omega)]
  have eq : qCost h1 (h 122) t n = qCost h (h 122) t n := by
    unfold qCost cWhy
    rw [eN, hi 119 (by omega)]
  rw [eq] at pm
  exact H.tell2 px pm
theorem b_acted (h : zHp) (H : Rel h) (h35 : h 117 35 = 0 ∨ h 117 35 = 1) (x : Int) : zCi mX11_acted 1 [zA 0, zI x] h (fun v h1 => kp h h1 ∧ zCi mX12_acted 1 [zA 117, zI x] h1 (fun v2 h2 => rOut h v v2 h2)) := by
  refine (x_acted h H.2.2.2.2.2.2.2.1 h35 x).wkn (fun v h1 px => ?_)
  have hi : ∀ a : Nat, 117 ≤ a → h1 a = h a := px.2.2.1
  refine ⟨kp_hi hi, (r_acted h1 (by rw [hi 117 (by omega)]; exact h35) x).wkn (fun v2 h2 pm => ?_)⟩
  have eq : qActed h1 x = qActed h x := by
    unfold qActed
    rw [hi 117 (by omega)]
  rw [eq] at pm
  exact H.tell2 px pm
theorem b_safe (h : zHp) (H : Rel h) (kd : Int) : zCi mX11_safe 18 [zA 0, zI kd] h (fun v h1 => kp h h1 ∧ zCi mX12_safe 22 [zA 117, zI kd] h1 (fun v2 h2 => rOut h v v2 h2)) := by
  refine (x_safe h H.2.2.2.2.2.1 kd).wkn (fun v h1 px => ?_)
  have hi : ∀ a : Nat, 117 ≤ a → h1 a = h a := by
    by_cases c0 : cSa (h 122) kd = 0
    · by_cases c1 : kd ≤ 3
      · exact (px.1 c0 c1).2.2.1
      · obtain ⟨n, c, r, -, p3⟩ := px.2.1 c0 (by omega)
        exact p3.2.2.1
    · exact (px.2.2 c0).2.2.1
  refine ⟨kp_hi hi, (r_safe h1 (h 122) (hi 122 (by omega)) H.db H.st kd).wkn (fun v2 h2 pm => ?_)⟩
  exact rel_safe H px pm
theorem b_names (h : zHp) (H : Rel h) (a wn kd cheap : Int) (hwn : wn = 0 ∨ wn = 1) (hch : cheap = 0 ∨ cheap = 1) : zCi mX11_names 5 [zA 0, zI a, zI wn, zI kd, zI cheap] h (fun v h1 => kp h h1 ∧ zCi mX12_names 9 [zA 117, zI a, zI wn, zI kd, zI cheap] h1 (fun v2 h2 => rOut h v v2 h2)) := by
  refine (x_names h H.2.2.2.2.2.1 a wn kd cheap hwn).wkn (fun v h1 px => ?_)
  have hi : ∀ a : Nat, 117 ≤ a → h1 a = h a := px.2.2.1
  refine ⟨kp_hi hi, (r_names h1 (h 122) (hi 122 (by omega)) H.db H.st a wn kd cheap hwn hch).wkn (fun v2 h2 pm => ?_)⟩
  exact rel_names H px pm
theorem b_people (h : zHp) (H : Rel h) (a wn kd mo ch : Int) (hwn : wn = 0 ∨ wn = 1) (hch : ch = 0 ∨ ch = 1) : zCi mX11_people 18 [zA 0, zI a, zI wn, zI kd, zI mo, zI ch] h (fun v h1 => kp h h1 ∧ zCi mX12_people 22 [zA 117, zI a, zI wn, zI kd, zI mo, zI ch] h1 (fun v2 h2 => rOut h v v2 h2)) := by
  refine (x_people h H.2.2.2.2.2.1 a wn kd mo ch hwn).wkn (fun v h1 px => ?_)
  have hi : ∀ a : Nat, 117 ≤ a → h1 a = h a := by
    by_cases c0 : cPe (h 122) a kd mo = 0
    · obtain ⟨n, c, r, -, p3⟩ := px.1 c0
      exact p3.2.2.1
    · exact (px.2 c0).2.2.1
  refine ⟨kp_hi hi, (r_people h1 (h 122) (hi 122 (by omega)) H.db H.st a wn kd mo ch hwn hch).wkn (fun v2 h2 pm => ?_)⟩
  exact rel_people H px pm
theorem b_game (h : zHp) (H : Rel h) (a m o t : Int) : zCi mX11_game 5 [zA 0, zI a, zI m, zI o, zI t] h (fun v h1 => kp h h1 ∧ zCi mX12_game 14 [zA 117, zI a, zI m, zI o, zI t] h1 (fun v2 h2 => rOut h v v2 h2)) := by
  refine (x_game h H.2.2.2.2.2.1 a m o t).wkn (fun v h1 px => ?_)
  have hi : ∀ a : Nat, 117 ≤ a → h1 a = h a := px.2.2.1
  refine ⟨kp_hi hi, (r_game h1 (h 122) (hi 122 (by omega)) H.db H.st a m o t).wkn (fun v2 h2 pm => ?_)⟩
  exact rel_game H px pm
theorem b_doubt (h : zHp) (H : Rel h) (t a : Int) : zCi mX11_doubt 26 [zA 0, zI t, zI a] h (fun v h1 => kp h h1 ∧ zCi mX12_doubt 28 [zA 117, zI t, zI a] h1 (fun v2 h2 => rOut h v v2 h2)) := by
  refine (x_doubt h H.2.2.2.2.2.1 H.2.1 t a).wkn (fun v h1 px => ?_)
  have hi : ∀ a : Nat, 117 ≤ a → h1 a = h a := px.2.2.1
  refine ⟨kp_hi hi, (r_doubt h1 (h 122) (hi 122 (by omega)) H.db H.st (H.t60 hi) t a).wkn (fun v2 h2 pm => ?_)⟩
  have eN : ∀ j : Nat, nums h1 j = nums h j := fun j => by funext i; unfold nums; rw [hi 120 (by omega)]
  have eq : cDbt h1 (h 122) t a = cDbt h (h 122) t a := by unfold cDbt; rw [eN, hi 119 (by omega)]
  have eS : ∀ j : Nat, shN h1 j = shN h j := fun j => by unfold shN; rw [eN]
  have eq2 : dO h1 (h 122) t a = dO h (h 122) t a := by unfold dO; rw [eS]
  rw [eq, eq2] at pm
  exact rel_frac H px pm
theorem b_seldom (h : zHp) (H : Rel h) (a m : Int) : zCi mX11_seldom 26 [zA 0, zI a, zI m] h (fun v h1 => kp h h1 ∧ zCi mX12_seldom 28 [zA 117, zI a, zI m] h1 (fun v2 h2 => rOut h v v2 h2)) := by
  refine (x_seldom h H.2.2.2.2.2.1 a m).wkn (fun v h1 px => ?_)
  have hi : ∀ a : Nat, 117 ≤ a → h1 a = h a := px.2.2.1
  refine ⟨kp_hi hi, (r_seldom h1 (h 122) (hi 122 (by omega)) H.db H.st a m).wkn (fun v2 h2 pm => ?_)⟩
  exact rel_frac H px pm
theorem b_tray (h : zHp) (H : Rel h) (t s n : Int) : zCi mX11_tray 2 [zA 0, zI t, zI s, zI n] h (fun v h1 => kp h h1 ∧ zCi mX12_tray 1 [zA 117, zI t, zI s, zI n] h1 (fun v2 h2 => rOut h v v2 h2)) := by
  refine (x_tray h t s n).wkn (fun v h1 px => ?_)
  have hi : ∀ a : Nat, 117 ≤ a → h1 a = h a := by
    intro a ha
    by_cases c : cTray t s n = 0
    · have t4 : t.toNat < 4 := by unfold cTray at c; split at c <;> omega
      rw [← (px.1 c).2, zup_off (by omega), zfill_off (by omega), zup_off (by omega), zup_off (by omega), zup_off (by omega)]
    · exact (px.2 c).2.2.1 a ha
  refine ⟨kp_hi hi, (r_tray h1 t s n).wkn (fun v2 h2 pm => ?_)⟩
  exact rel_tray H px pm
theorem b_write (h : zHp) (H : Rel h) (t k x : Int) : zCi mX11_write 2 [zA 0, zI t, zI k, zJ x] h (fun v h1 => kp h h1 ∧ zCi mX12_write 2 [zA 117, zI t, zI k, zJ x] h1 (fun v2 h2 => rOut h v v2 h2)) := by
  refine (x_write h H.2.1 t k x).wkn (fun v h1 px => ?_)
  have hi : ∀ a : Nat, 117 ≤ a → h1 a = h a := by
    intro a ha
    by_cases c : cCell h t k = 0
    · have t4 : t.toNat < 4 := by unfold cCell at c; split at c <;> omega
      rw [← (px.1 c).2, zup_off (by omega), zup_off (by omega)]
    · exact (px.2 c).2.2.1 a ha
  refine ⟨kp_hi hi, (r_write h1 (H.t60 hi) t k x).wkn (fun v2 h2 pm => ?_)⟩
  exact rel_write H px pm
theorem b_pour (h : zHp) (H : Rel h) (t i u j n : Int) : zCi mX11_pour 1 [zA 0, zI t, zI i, zI u, zI j, zI n] h (fun v h1 => kp h h1 ∧ zCi mX12_pour 1 [zA 117, zI t, zI i, zI u, zI j, zI n] h1 (fun v2 h2 => rOut h v v2 h2)) := by
  refine (x_pour h H.2.1 t i u j n).wkn (fun v h1 px => ?_)
  have hi : ∀ a : Nat, 117 ≤ a → h1 a = h a := by
    intro a ha
    by_cases c : cPour h t i u j n = 0
    · have t4 : u.toNat < 4 := by unfold cPour at c; split at c <;> omega
      rw [← (px.1 c).2, zup_off (by omega), zcp_off (by omega)]
    · exact (px.2 c).2.2.1 a ha
  refine ⟨kp_hi hi, (r_pour h1 (H.t60 hi) t i u j n).wkn (fun v2 h2 pm => ?_)⟩
  exact rel_pour H px pm
theorem b_stand (h : zHp) (H : Rel h) (k is : Int) : zCi mX11_stand 1 [zA 0, zI k, zI is] h (fun v h1 => kp h h1 ∧ zCi mX12_stand 2 [zA 117, zI k, zI is] h1 (fun v2 h2 => rOut h v v2 h2)) := by
  refine (x_stand h H.2.2.2.2.2.1 k is).wkn (fun v h1 px => ?_)
  have hi : ∀ a : Nat, 117 ≤ a → h1 a = h a := by
    intro a ha
    by_cases c : cNam (h 122) k = 0
    · rw [← (px.1 c).2, zup_off (by omega), zup_off (by omega)]
    · exact (px.2 c).2.2.1 a ha
  refine ⟨kp_hi hi, (r_stand h1 (h1 122) rfl (by rw [hi 122 (by omega)]; exact H.db) (by rw [hi 122 (by omega)]; exact H.st) k is).wkn (fun v2 h2 pm => ?_)⟩
  exact rel_stand H px pm
theorem b_voters (h : zHp) (H : Rel h) (s i o : Int) : zCi mX11_voters 1 [zA 0, zI s, zI i, zI o] h (fun v h1 => kp h h1 ∧ zCi mX12_voters 2 [zA 117, zI s, zI i, zI o] h1 (fun v2 h2 => rOut h v v2 h2)) := by
  refine (x_voters h H.2.2.2.2.2.1 s i o).wkn (fun v h1 px => ?_)
  have hi : ∀ a : Nat, 117 ≤ a → h1 a = h a := by
    intro a ha
    by_cases c : cVot (h 122) s i o = 0
    · rw [← (px.1 c).2, zup_off (by omega), zup_off (by omega), zup_off (by omega)]
    · exact (px.2 c).2.2.1 a ha
  refine ⟨kp_hi hi, (r_voters h1 (h1 122) rfl (by rw [hi 122 (by omega)]; exact H.db) (by rw [hi 122 (by omega)]; exact H.st) s i o).wkn (fun v2 h2 pm => ?_)⟩
  exact rel_voters H px pm
theorem b_feed (h : zHp) (H : Rel h) (a b c d e : Int) : zCi mX11_feed 1 [zA 0, zI a, zI b, zI c, zI d, zI e] h (fun v h1 => kp h h1 ∧ zCi mX12_feed 1 [zA 117, zI a, zI b, zI c, zI d, zI e] h1 (fun v2 h2 => rOut h v v2 h2)) := by
  refine (x_feed h (h 117 8).toNat (by have q := H.2.2.1; have := q.1; have := q.2.1; omega) a b c d e).wkn (fun v h1 px => ?_)
  have hi : ∀ a : Nat, 117 ≤ a → h1 a = h a := by
    intro x hx
    by_cases z : (h 117 8).toNat ≤ 680
    · rw [← (px.1 z).2, tp_off (by omega) (by omega), tp_off (by omega) (by omega), tp_off (by omega) (by omega), tp_off (by omega) (by omega), tp_off (by omega) (by omega)]
    · rw [← (px.2 z).2]
  refine ⟨kp_hi hi, (r_feed h1 (h 117 8).toNat (by rw [hi 117 (by omega)]; have := H.2.2.1.2.1; omega) (by have := H.2.2.1.2.2.1; omega) a b c d e).wkn (fun v2 h2 pm => ?_)⟩
  exact rel_feed H (by have := H.2.2.1.2.1; omega) px pm
theorem b_mark (h : zHp) (H : Rel h) : zCi mX11_mark 2 [zA 0] h (fun v h1 => kp h h1 ∧ zCi mX12_mark 1 [zA 117] h1 (fun v2 h2 => rOut h v v2 h2)) := by
  refine (x_mark h (h 117 22).toNat (by have := H.2.2.2.2.2.2.1.2.2.1; omega) (by have q := H.2.2.2.2.2.2.1; have := q.1; have := q.2.1; omega)).wkn (fun v h1 px => ?_)
  have hi : ∀ a : Nat, 117 ≤ a → h1 a = h a := by
    intro a ha
    by_cases z : (h 117 22).toNat < 3
    · obtain ⟨-, g1, g2, C1, C2, e1⟩ := px.1 z
      rw [← e1, zup_off (by omega), zup_off (by omega), C2.1 a (by omega), C1.1 a (by omega)]
    · exact (px.2 z).2.2.1 a ha
  refine ⟨kp_hi hi, (r_mark h1 (h 117 22).toNat (by have := H.2.2.2.2.2.2.1.2.2.1; omega) (by rw [hi 117 (by omega)]; have := H.2.2.2.2.2.2.1.2.1; omega)).wkn (fun v2 h2 pm => ?_)⟩
  exact rel_mark H (by have := H.2.2.2.2.2.2.1.2.2.1; omega) (by have := H.2.2.2.2.2.2.1.2.1; omega) px pm
theorem b_back (h : zHp) (H : Rel h) : zCi mX11_back 2 [zA 0] h (fun v h1 => kp h h1 ∧ zCi mX12_back 1 [zA 117] h1 (fun v2 h2 => rOut h v v2 h2)) := by
  refine (x_back h (h 117 22 - 1).toNat (by have := H.2.2.2.2.2.2.1.2.2.1; omega) (0 < h 117 22) (by have q := H.2.2.2.2.2.2.1; have := q.1; have := q.2.1; omega)).wkn (fun v h1 px => ?_)
  have hi : ∀ a : Nat, 117 ≤ a → h1 a = h a := by
    intro a ha
    by_cases z : 0 < h 117 22
    · obtain ⟨-, g1, g2, C1, C2, e1⟩ := px.1 z
      have := H.2.2.2.2.2.2.1.2.2.1
      rw [← e1, zup_off (by omega), C2.1 a (by omega), C1.1 a (by omega), zup_off (by omega)]
    · exact (px.2 z).2.2.1 a ha
  refine ⟨kp_hi hi, (r_back h1 (h 117 22 - 1).toNat (by have := H.2.2.2.2.2.2.1.2.2.1; omega) (0 < h 117 22) (by rw [hi 117 (by omega)]; have := H.2.2.2.2.2.2.1.2.1; omega)).wkn (fun v2 h2 pm => ?_)⟩
  exact rel_back H (by have := H.2.2.2.2.2.2.1.2.2.1; omega) (by have := H.2.2.2.2.2.2.1.2.1; omega) px pm
theorem b_act (h : zHp) (H : Rel h) : zCi mX11_act 8 [zA 0] h (fun v h1 => kp h h1 ∧ zCi mX12_act 41 [zA 117] h1 (fun v2 h2 => rOut h v v2 h2)) := by
  obtain ⟨t, N, a1, a2, a3, a4, a5, a6, a7, a8⟩ := H.2.2.2.2.2.2.2.2.1
  refine (x_act h H.2.2.2.2.2.1 (h 117 33) a6 a7 t N a4 a5 a8).wkn (fun v h1 px => ?_)
  have G0 : aG (aS0 (h 122)) := ⟨⟨H.db, H.st⟩, ⟨Int.le_refl _, by show (0 : Int) ≤ 200; omega⟩, Or.inl rfl, ⟨Int.le_refl _, Int.le_refl _⟩, ⟨Int.le_refl _, Int.le_refl _⟩, ⟨Int.le_refl _, Int.le_refl _⟩⟩
  have hT := exA_in (sp := h 117 33) 40 3 0 t 0 N a8 (aS0 (h 122)) G0
  have hc : ∀ a : Nat, ¬ a = 0 → ¬ a = 4 → ¬ a = 9 → ¬ a = 10 → ¬ a = 51 → ¬ a = 65 → ¬ a = 66 → h1 a = h a := by
    obtain ⟨-, g, X, e1⟩ := px
    intro a z0 z1 z2 z3 z4 z5 z6
    rw [← e1, zup_off z0]
    exact X.2.2.2.2.2.2 a z1 z2 z3 z4 z5 z6
  have hi : ∀ a : Nat, 117 ≤ a → h1 a = h a := fun a ha => hc a (by omega) (by omega) (by omega) (by omega) (by omega) (by omega) (by omega)
  have b8 : blk h1 40 3 0 t 0 N := blk_cg (fun a ha => hc a (by omega) (by omega) (by omega) (by omega) (by omega) (by omega) (by omega)) _ _ _ _ _ _ a8
  refine ⟨kp_hi hi, (r_act h1 (h 122) (hi 122 (by omega)) H.db H.st (h 117 33) (by rw [hi 117 (by omega)]) a7 t N (by rw [hi 117 (by omega)]; exact a1) a2 b8).wkn (fun v2 h2 pm => ?_)⟩
  rw [exA_cg (h := h) (g := h1) (h 117 33) (hi 123 (by omega)) (hi 126 (by omega)) (hi 127 (by omega)) (hi 128 (by omega)) (hi 129 (by omega)) (hi 134 (by omega))] at pm
  exact rel_act H hT px pm
theorem b_hall (h : zHp) (H : Rel h) (N : nB h) (hby : ∀ i : Nat, i < 700 → -128 ≤ h 3 i ∧ h 3 i ≤ 127) (n : Int) : zCi mX11_hall 9 [zA 0, zI n] h (fun v h1 => kp h h1 ∧ zCi mX12_hall 5 [zA 117, zI n] h1 (fun v2 h2 => rOut h v v2 h2)) := by
  have tp := H.2.2.1
  by_cases z : n < 0 ∨ h 2 1 < n ∨ 700 < n
  · refine (x_hallN h n z).wkn (fun v h1 px => ?_)
    have hi := px.2.2.1
    refine ⟨kp_hi hi, (r_hallN h1 n (by rw [hi 117 (by omega), ← tp.1]; exact z)).wkn (fun v2 h2 pm => H.tell2 px pm)⟩
  · obtain ⟨L, rfl⟩ : ∃ L : Nat, n = (L : Int) := ⟨n.toNat, by omega⟩
    have hL : (L : Int) ≤ h 2 1 := by omega
    refine (x_hallY h (h 3) L hL (by omega) (fun i hi => ⟨rfl, hby i (by have := tp.1; have := tp.2.2.1; omega)⟩) (nwD h) (nwW h) ⟨if_pos (by omega), if_pos (by omega), if_pos (by omega)⟩).wkn (fun v h1 px => ?_)
    have hi : ∀ a : Nat, 117 ≤ a → h1 a = h a := fun a ha => (xHp_hi px a (by omega)).trans (xOp_c (by omega))
    refine ⟨kp_hi hi, (r_hallY h1 (h 3) L (by rw [hi 117 (by omega), ← tp.1]; exact hL) (by omega) (fun i hi2 => ⟨by rw [hi 121 (by omega)]; exact (tp.2.2.2.1 i (by have := tp.1; omega)).symm, hby i (by have := tp.1; have := tp.2.2.1; omega)⟩)).wkn (fun v2 h2 pm => rel_hall H px pm)⟩
theorem b_rule (h : zHp) (H : Rel h) (N : nB h) (hby : ∀ i : Nat, i < 700 → -128 ≤ h 3 i ∧ h 3 i ≤ 127) (n : Int) : zCi mX11_rule 7 [zA 0, zI n] h (fun v h1 => kp h h1 ∧ zCi mX12_rule 5 [zA 117, zI n] h1 (fun v2 h2 => rOut h v v2 h2)) := by
  have tp := H.2.2.1
  by_cases z : n < 0 ∨ h 2 1 < n ∨ 200 < n
  · refine (x_ruleN h n z).wkn (fun v h1 px => ?_)
    have hi := px.2.2.1
    refine ⟨kp_hi hi, (r_ruleN h1 n (by rw [hi 117 (by omega), ← tp.1]; exact z)).wkn (fun v2 h2 pm => H.tell2 px pm)⟩
  · obtain ⟨L, rfl⟩ : ∃ L : Nat, n = (L : Int) := ⟨n.toNat, by omega⟩
    have hL : (L : Int) ≤ h 2 1 := by omega
    refine (x_ruleY h (h 3) L hL (by omega) (fun i hi => ⟨rfl, hby i (by have := tp.1; have := tp.2.2.1; omega)⟩) (nwR h) (nwW h) (h 117 70) up_at).wkn (fun v h1 px => ?_)
    have hi : ∀ a : Nat, 117 ≤ a → h1 a = h a := fun a ha => (xRp_hi px a (by omega) (by omega)).trans (xOp_c (by omega))
    refine ⟨kp_hi hi, (r_ruleY h1 (h 3) L (by rw [hi 117 (by omega), ← tp.1]; exact hL) (by omega) (fun i hi2 => ⟨by rw [hi 121 (by omega)]; exact (tp.2.2.2.1 i (by have := tp.1; omega)).symm, hby i (by have := tp.1; have := tp.2.2.1; omega)⟩)).wkn (fun v2 h2 pm => rel_rule H N px pm)⟩
theorem b_acts (h : zHp) (H : Rel h) (N : nB h) (hby : ∀ i : Nat, i < 700 → -128 ≤ h 3 i ∧ h 3 i ≤ 127) (n : Int) : zCi mX11_acts 10 [zA 0, zI n] h (fun v h1 => kp h h1 ∧ zCi mX12_acts 9 [zA 117, zI n] h1 (fun v2 h2 => rOut h v v2 h2)) := by
  have tp := H.2.2.1
  by_cases z : n < 0 ∨ h 2 1 < n ∨ 300 < n
  · refine (x_actsN h n z).wkn (fun v h1 px => ?_)
    have hi := px.2.2.1
    refine ⟨kp_hi hi, (r_actsN h1 n (by rw [hi 117 (by omega), ← tp.1]; exact z)).wkn (fun v2 h2 pm => H.tell2 px pm)⟩
  · obtain ⟨L, rfl⟩ : ∃ L : Nat, n = (L : Int) := ⟨n.toNat, by omega⟩
    have hL : (L : Int) ≤ h 2 1 := by omega
    refine (x_actsY h (h 3) L hL (by omega) (fun i hi => ⟨rfl, hby i (by have := tp.1; have := tp.2.2.1; omega)⟩) (nwA h)).wkn (fun v h1 px => ?_)
    have hi : ∀ a : Nat, 117 ≤ a → h1 a = h a := fun a ha => (xAp_hi px a (by omega)).trans (xOp_c (by omega))
    refine ⟨kp_hi hi, (r_actsY h1 (h 3) L (by rw [hi 117 (by omega), ← tp.1]; exact hL) (by omega) (fun i hi2 => ⟨by rw [hi 121 (by omega)]; exact (tp.2.2.2.1 i (by have := tp.1; omega)).symm, hby i (by have := tp.1; have := tp.2.2.1; omega)⟩)).wkn (fun v2 h2 pm => rel_acts H px pm)⟩
