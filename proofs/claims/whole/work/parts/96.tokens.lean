-- words, numbers and signs of a text: what stands where (written by wip/tools/specY2.py)
def skF (B : Nat → Int) : Nat → Nat → Nat
  | 0, p => p
  | r + 1, p => if B p = 10 ∨ B p = 32 then skF B r (p + 1) else p
def ltF (B : Nat → Int) : Nat → Nat → Nat
  | 0, p => p
  | r + 1, p => if 97 ≤ B p ∧ B p ≤ 122 then ltF B r (p + 1) else p
def dgF (B : Nat → Int) : Nat → Nat → Nat
  | 0, p => p
  | r + 1, p => if 48 ≤ B p ∧ B p ≤ 57 then dgF B r (p + 1) else p
def wdF (B : Nat → Int) (a : Nat) : Nat → Int
  | 0 => 0
  | n + 1 => wdF B a n * 32 + (B (a + n) - 96)
def nuF (B : Nat → Int) (a : Nat) : Nat → Int
  | 0 => 0
  | n + 1 => nuF B a n * 10 + (B (a + n) - 48)
theorem skF_b {B : Nat → Int} : ∀ r p, p ≤ skF B r p ∧ skF B r p ≤ p + r ∧ ∀ i : Nat, p ≤ i → i < skF B r p → B i = 10 ∨ B i = 32 := by
  intro r
  induction r with
  | zero => intro p; exact ⟨Nat.le_refl _, Nat.le_refl _, fun i h1 h2 => by have : i < p := h2; omega⟩
  | succ r ih =>
    intro p
    rw [skF]
    split
    · next hc =>
      have q := ih (p + 1)
      refine ⟨by omega, by omega, fun i h1 h2 => ?_⟩
      by_cases e : i = p
      · rw [e]; exact hc
      · exact q.2.2 i (by omega) h2
    · exact ⟨Nat.le_refl _, by omega, fun i h1 h2 => by omega⟩
theorem skF_t {B : Nat → Int} {r p : Nat} (h : B p = 10 ∨ B p = 32) : skF B (r + 1) p = skF B r (p + 1) := by rw [skF, if_pos h]
theorem skF_f {B : Nat → Int} {r p : Nat} (h : ¬ (B p = 10 ∨ B p = 32)) : skF B (r + 1) p = p := by rw [skF, if_neg h]
theorem ltF_b {B : Nat → Int} : ∀ r p, p ≤ ltF B r p ∧ ltF B r p ≤ p + r ∧ ∀ i : Nat, p ≤ i → i < ltF B r p → 97 ≤ B i ∧ B i ≤ 122 := by
  intro r
  induction r with
  | zero => intro p; exact ⟨Nat.le_refl _, Nat.le_refl _, fun i h1 h2 => by have : i < p := h2; omega⟩
  | succ r ih =>
    intro p
    rw [ltF]
    split
    · next hc =>
      have q := ih (p + 1)
      refine ⟨by omega, by omega, fun i h1 h2 => ?_⟩
      by_cases e : i = p
      · rw [e]; exact hc
      · exact q.2.2 i (by omega) h2
    · exact ⟨Nat.le_refl _, by omega, fun i h1 h2 => by omega⟩
theorem ltF_t {B : Nat → Int} {r p : Nat} (h : 97 ≤ B p ∧ B p ≤ 122) : ltF B (r + 1) p = ltF B r (p + 1) := by rw [ltF, if_pos h]
theorem ltF_f {B : Nat → Int} {r p : Nat} (h : ¬ (97 ≤ B p ∧ B p ≤ 122)) : ltF B (r + 1) p = p := by rw [ltF, if_neg h]
theorem dgF_b {B : Nat → Int} : ∀ r p, p ≤ dgF B r p ∧ dgF B r p ≤ p + r ∧ ∀ i : Nat, p ≤ i → i < dgF B r p → 48 ≤ B i ∧ B i ≤ 57 := by
  intro r
  induction r with
  | zero => intro p; exact ⟨Nat.le_refl _, Nat.le_refl _, fun i h1 h2 => by have : i < p := h2; omega⟩
  | succ r ih =>
    intro p
    rw [dgF]
    split
    · next hc =>
      have q := ih (p + 1)
      refine ⟨by omega, by omega, fun i h1 h2 => ?_⟩
      by_cases e : i = p
      · rw [e]; exact hc
      · exact q.2.2 i (by omega) h2
    · exact ⟨Nat.le_refl _, by omega, fun i h1 h2 => by omega⟩
theorem dgF_t {B : Nat → Int} {r p : Nat} (h : 48 ≤ B p ∧ B p ≤ 57) : dgF B (r + 1) p = dgF B r (p + 1) := by rw [dgF, if_pos h]
theorem dgF_f {B : Nat → Int} {r p : Nat} (h : ¬ (48 ≤ B p ∧ B p ≤ 57)) : dgF B (r + 1) p = p := by rw [dgF, if_neg h]
def kE (B : Nat → Int) (L a : Nat) : Nat := if a = L then L else if 97 ≤ B a ∧ B a ≤ 122 then ltF B (L - a) a else if 48 ≤ B a ∧ B a ≤ 57 then dgF B (L - a) a else a + 1
def kK (B : Nat → Int) (L a : Nat) : Int := if a = L then 0 else if 97 ≤ B a ∧ B a ≤ 122 then 1 else if 48 ≤ B a ∧ B a ≤ 57 then (if 3 < dgF B (L - a) a - a then 4 else 2) else if B a = 59 then 3 else 4
def kW (B : Nat → Int) (L a : Nat) : Int := if kE B L a - a ≤ 8 then wdF B a (kE B L a - a) else 0
def kV (B : Nat → Int) (L a : Nat) : Int := nuF B a (kE B L a - a)
/-- where the next piece begins, its kind (0 end, 1 word, 2 number, 3 sign, 4 none), where it ends, its word, its number -/
def tkA (B : Nat → Int) (L p : Nat) : Nat := skF B (L - p) p
def tkK (B : Nat → Int) (L p : Nat) : Int := kK B L (tkA B L p)
def tkE (B : Nat → Int) (L p : Nat) : Nat := kE B L (tkA B L p)
def tkW (B : Nat → Int) (L p : Nat) : Int := kW B L (tkA B L p)
def tkV (B : Nat → Int) (L p : Nat) : Int := kV B L (tkA B L p)
theorem wdF_b {B : Nat → Int} {a : Nat} : ∀ n : Nat, (∀ i : Nat, a ≤ i → i < a + n → 97 ≤ B i ∧ B i ≤ 122) → 0 ≤ wdF B a n ∧ wdF B a n < ((32 ^ n : Nat) : Int) ∧ (0 < n → 0 < wdF B a n) := by
  intro n
  induction n with
  | zero => intro _; exact ⟨by show (0 : Int) ≤ 0; omega, by show (0 : Int) < 1; omega, fun q => by omega⟩
  | succ n ih =>
    intro h
    have q := ih (fun i h1 h2 => h i h1 (by omega))
    have hb := h (a + n) (by omega) (by omega)
    rw [wdF, Nat.pow_succ]
    refine ⟨by omega, by omega, fun _ => by omega⟩
theorem nuF_b {B : Nat → Int} {a : Nat} : ∀ n : Nat, (∀ i : Nat, a ≤ i → i < a + n → 48 ≤ B i ∧ B i ≤ 57) → 0 ≤ nuF B a n ∧ nuF B a n < ((10 ^ n : Nat) : Int) := by
  intro n
  induction n with
  | zero => intro _; exact ⟨by show (0 : Int) ≤ 0; omega, by show (0 : Int) < 1; omega⟩
  | succ n ih =>
    intro h
    have q := ih (fun i h1 h2 => h i h1 (by omega))
    have hb := h (a + n) (by omega) (by omega)
    rw [nuF, Nat.pow_succ]
    exact ⟨by omega, by omega⟩
theorem wdF_inj {B C : Nat → Int} {a c : Nat} : ∀ n m : Nat, (∀ i : Nat, a ≤ i → i < a + n → 97 ≤ B i ∧ B i ≤ 122) → (∀ i : Nat, c ≤ i → i < c + m → 97 ≤ C i ∧ C i ≤ 122) → wdF B a n = wdF C c m → n = m ∧ ∀ i : Nat, i < n → B (a + i) = C (c + i) := by
  intro n
  induction n with
  | zero =>
    intro m _ h2 e
    rcases Nat.eq_zero_or_pos m with z | z
    · exact ⟨z.symm, fun i hi => by omega⟩
    · have q := (wdF_b m h2).2.2 z
      have e2 : (0 : Int) = wdF C c m := e
      omega
  | succ n ih =>
    intro m h1 h2 e
    cases m with
    | zero =>
      have q := (wdF_b (n + 1) h1).2.2 (by omega)
      have e2 : wdF B a (n + 1) = 0 := e
      omega
    | succ m =>
      rw [wdF, wdF] at e
      have b1 := h1 (a + n) (by omega) (by omega)
      have b2 := h2 (c + m) (by omega) (by omega)
      have q := ih m (fun i p1 p2 => h1 i p1 (by omega)) (fun i p1 p2 => h2 i p1 (by omega)) (by omega)
      obtain ⟨q1, q2⟩ := q
      subst q1
      refine ⟨rfl, fun i hi => ?_⟩
      by_cases z : i = n
      · subst z; omega
      · exact q2 i (by omega)
theorem wdF_cg {B C : Nat → Int} {a c : Nat} : ∀ n : Nat, (∀ i : Nat, i < n → B (a + i) = C (c + i)) → wdF B a n = wdF C c n := by
  intro n
  induction n with
  | zero => intro _; rfl
  | succ n ih => intro h; rw [wdF, wdF, ih (fun i hi => h i (by omega)), h n (by omega)]
theorem tkA_b {B : Nat → Int} {L p : Nat} (hp : p ≤ L) : p ≤ tkA B L p ∧ tkA B L p ≤ L := by
  have q := skF_b (B := B) (L - p) p
  unfold tkA
  omega
theorem kE_b {B : Nat → Int} {L a : Nat} (ha : a ≤ L) : a ≤ kE B L a ∧ kE B L a ≤ L ∧ (¬ kK B L a = 0 → a < kE B L a) ∧ (kK B L a = 0 → a = L) ∧ (kK B L a = 1 → ∀ i : Nat, a ≤ i → i < kE B L a → 97 ≤ B i ∧ B i ≤ 122) ∧ (kK B L a = 2 → kE B L a - a ≤ 3 ∧ ∀ i : Nat, a ≤ i → i < kE B L a → 48 ≤ B i ∧ B i ≤ 57) ∧ 0 ≤ kK B L a ∧ kK B L a ≤ 4 := by
  unfold kE kK
  by_cases c0 : a = L
  · rw [if_pos c0, if_pos c0]
    exact ⟨by omega, by omega, fun q => absurd rfl q, fun _ => c0, fun q => by omega, fun q => by omega, by omega, by omega⟩
  · rw [if_neg c0, if_neg c0]
    obtain ⟨r, hr⟩ : ∃ r, L - a = r + 1 := ⟨L - a - 1, by omega⟩
    by_cases c1 : 97 ≤ B a ∧ B a ≤ 122
    · rw [if_pos c1, if_pos c1, hr, ltF_t c1]
      have q := ltF_b (B := B) r (a + 1)
      refine ⟨by omega, by omega, fun _ => by omega, fun q => by omega, fun _ i h1 h2 => ?_, fun q => by omega, by omega, by omega⟩
      by_cases z : i = a
      · rw [z]; exact c1
      · exact q.2.2 i (by omega) h2
    · rw [if_neg c1, if_neg c1]
      by_cases c2 : 48 ≤ B a ∧ B a ≤ 57
      · rw [if_pos c2, if_pos c2, hr, dgF_t c2]
        have q := dgF_b (B := B) r (a + 1)
        refine ⟨by omega, by omega, fun _ => by omega, fun q => by split at q <;> omega, fun q => by split at q <;> omega, fun q => ⟨by split at q <;> omega, fun i h1 h2 => ?_⟩, by split <;> omega, by split <;> omega⟩
        by_cases z : i = a
        · rw [z]; exact c2
        · exact (dgF_b (B := B) r (a + 1)).2.2 i (by omega) h2
      · rw [if_neg c2, if_neg c2]
        refine ⟨by omega, by omega, fun _ => by omega, fun q => by split at q <;> omega, fun q => by split at q <;> omega, fun q => by split at q <;> omega, by split <;> omega, by split <;> omega⟩
theorem kW_b {B : Nat → Int} {L a : Nat} (ha : a ≤ L) (h1 : kK B L a = 1) : 0 ≤ kW B L a ∧ kW B L a < 1099511627776 ∧ (kW B L a = 0 ↔ 8 < kE B L a - a) := by
  have q := kE_b (B := B) ha
  have w := wdF_b (B := B) (a := a) (kE B L a - a) (fun i p1 p2 => q.2.2.2.2.1 h1 i p1 (by omega))
  have q3 := q.2.2.1 (by omega)
  unfold kW
  split
  · next c =>
    have e : 32 ^ (kE B L a - a) ≤ 32 ^ 8 := Nat.pow_le_pow_right (by omega) c
    have w3 := w.2.2 (by omega)
    refine ⟨by omega, by omega, ⟨fun z => by omega, fun z => by omega⟩⟩
  · exact ⟨by omega, by omega, ⟨fun _ => by omega, fun _ => rfl⟩⟩
theorem kV_b {B : Nat → Int} {L a : Nat} (ha : a ≤ L) (h1 : kK B L a = 2) : 0 ≤ kV B L a ∧ kV B L a ≤ 999 := by
  have q := kE_b (B := B) ha
  have w := nuF_b (B := B) (a := a) (kE B L a - a) (fun i p1 p2 => (q.2.2.2.2.2.1 h1).2 i p1 (by omega))
  have e : 10 ^ (kE B L a - a) ≤ 10 ^ 3 := Nat.pow_le_pow_right (by omega) (q.2.2.2.2.2.1 h1).1
  unfold kV
  omega
/-- what is known of a piece -/
theorem tk_b {B : Nat → Int} {L p : Nat} (hp : p ≤ L) : p ≤ tkA B L p ∧ tkA B L p ≤ tkE B L p ∧ tkE B L p ≤ L ∧ (¬ tkK B L p = 0 → tkA B L p < tkE B L p) ∧ 0 ≤ tkK B L p ∧ tkK B L p ≤ 4 ∧ (tkK B L p = 1 → 0 ≤ tkW B L p ∧ tkW B L p < 1099511627776) ∧ (tkK B L p = 2 → 0 ≤ tkV B L p ∧ tkV B L p ≤ 999) := by
  have q := tkA_b (B := B) hp
  have k := kE_b (B := B) q.2
  exact ⟨q.1, k.1, k.2.1, k.2.2.1, k.2.2.2.2.2.2.1, k.2.2.2.2.2.2.2, fun z => ⟨(kW_b q.2 z).1, (kW_b q.2 z).2.1⟩, fun z => kV_b q.2 z⟩
/-- the text of the class's tape, of the reference's -/
def xB (h : zHp) (B : Nat → Int) (L : Nat) : Prop := h 2 2 = (L : Int) ∧ L ≤ 700 ∧ ∀ i : Nat, i < L → h 3 i = B i ∧ -128 ≤ B i ∧ B i ≤ 127
def mB (h : zHp) (B : Nat → Int) (L : Nat) : Prop := h 117 9 = (L : Int) ∧ L ≤ 700 ∧ ∀ i : Nat, i < L → h 121 i = B i ∧ -128 ≤ B i ∧ B i ≤ 127
def xFr (h g : zHp) : Prop := (∀ c : Nat, ¬ c = 2 → g c = h c) ∧ g 2 1 = h 2 1 ∧ g 2 2 = h 2 2 ∧ g 2 8 = h 2 8 ∧ g 2 9 = h 2 9
def mFr (h g : zHp) : Prop := (∀ c : Nat, ¬ c = 117 → g c = h c) ∧ ∀ i : Nat, ¬ (14 ≤ i ∧ i ≤ 19) → g 117 i = h 117 i
theorem xFr.rf {h : zHp} : xFr h h := ⟨fun _ _ => rfl, rfl, rfl, rfl, rfl⟩
theorem mFr.rf {h : zHp} : mFr h h := ⟨fun _ _ => rfl, fun _ _ => rfl⟩
theorem xFr.tr {h g f : zHp} (H : xFr h g) (G : xFr g f) : xFr h f := ⟨fun c hc => (G.1 c hc).trans (H.1 c hc), G.2.1.trans H.2.1, G.2.2.1.trans H.2.2.1, G.2.2.2.1.trans H.2.2.2.1, G.2.2.2.2.trans H.2.2.2.2⟩
theorem mFr.tr {h g f : zHp} (H : mFr h g) (G : mFr g f) : mFr h f := ⟨fun c hc => (G.1 c hc).trans (H.1 c hc), fun i hi => (G.2 i hi).trans (H.2 i hi)⟩
theorem xFr.up {h g : zHp} (H : xFr h g) {i : Nat} (hi : 3 ≤ i ∧ i ≤ 7) (v : Int) : xFr h (zup g 2 i v) := ⟨fun c hc => by rw [zup_off hc]; exact H.1 c hc, by rw [zup_ne (by omega)]; exact H.2.1, by rw [zup_ne (by omega)]; exact H.2.2.1, by rw [zup_ne (by omega)]; exact H.2.2.2.1, by rw [zup_ne (by omega)]; exact H.2.2.2.2⟩
theorem mFr.up {h g : zHp} (H : mFr h g) {i : Nat} (hi : 14 ≤ i ∧ i ≤ 19) (v : Int) : mFr h (zup g 117 i v) := ⟨fun c hc => by rw [zup_off hc]; exact H.1 c hc, fun j hj => by rw [zup_ne (by omega)]; exact H.2 j hj⟩
theorem xB.fr {h g : zHp} {B : Nat → Int} {L : Nat} (H : xB h B L) (F : xFr h g) : xB g B L := ⟨F.2.2.1.trans H.1, H.2.1, fun i hi => by rw [F.1 3 (by omega)]; exact H.2.2 i hi⟩
theorem mB.fr {h g : zHp} {B : Nat → Int} {L : Nat} (H : mB h B L) (F : mFr h g) : mB g B L := ⟨(F.2 9 (by omega)).trans H.1, H.2.1, fun i hi => by rw [F.1 121 (by omega)]; exact H.2.2 i hi⟩
/-- the class's tape stands behind the piece that begins at a; the reference's -/
def xTa (B : Nat → Int) (L a : Nat) (g : zHp) : Prop := g 2 4 = kK B L a ∧ g 2 5 = (a : Int) ∧ (kK B L a = 1 → g 2 7 = kW B L a) ∧ (kK B L a = 2 → g 2 6 = kV B L a) ∧ (¬ kK B L a = 4 → g 2 3 = (kE B L a : Int))
def mTa (B : Nat → Int) (L a : Nat) (g : zHp) : Prop := g 117 14 = kK B L a ∧ g 117 15 = (a : Int) ∧ (kK B L a = 1 → (8 < kE B L a - a → g 117 19 = -1 ∧ 8 < g 117 18) ∧ (¬ 8 < kE B L a - a → g 117 19 = kW B L a ∧ g 117 18 ≤ 8)) ∧ (kK B L a = 2 → g 117 17 = kV B L a) ∧ (¬ kK B L a = 4 → g 117 16 = (kE B L a : Int))
theorem bU : ∀ b : Int, -128 ≤ b → b ≤ 127 → zand b 255 = if b < 0 then b + 256 else b := by
  have h : ∀ n : Nat, n < 256 → zand ((n : Int) - 128) 255 = if ((n : Int) - 128) < 0 then ((n : Int) - 128) + 256 else ((n : Int) - 128) := by decide +kernel
  intro b h1 h2
  have q := h (b + 128).toNat (by omega)
  rw [show (((b + 128).toNat : Nat) : Int) - 128 = b by omega] at q
  exact q
theorem kE_0 {B : Nat → Int} {L a : Nat} (h : a = L) : kE B L a = L := if_pos h
theorem kK_0 {B : Nat → Int} {L a : Nat} (h : a = L) : kK B L a = 0 := if_pos h
theorem kE_1 {B : Nat → Int} {L a : Nat} (h : ¬ a = L) (h1 : 97 ≤ B a ∧ B a ≤ 122) : kE B L a = ltF B (L - a) a := by unfold kE; rw [if_neg h, if_pos h1]
theorem kK_1 {B : Nat → Int} {L a : Nat} (h : ¬ a = L) (h1 : 97 ≤ B a ∧ B a ≤ 122) : kK B L a = 1 := by unfold kK; rw [if_neg h, if_pos h1]
theorem kE_2 {B : Nat → Int} {L a : Nat} (h : ¬ a = L) (h2 : 48 ≤ B a ∧ B a ≤ 57) : kE B L a = dgF B (L - a) a := by unfold kE; rw [if_neg h, if_neg (by omega), if_pos h2]
theorem kK_2 {B : Nat → Int} {L a : Nat} (h : ¬ a = L) (h2 : 48 ≤ B a ∧ B a ≤ 57) : kK B L a = if 3 < dgF B (L - a) a - a then 4 else 2 := by unfold kK; rw [if_neg h, if_neg (by omega), if_pos h2]
theorem kK_3 {B : Nat → Int} {L a : Nat} (h : ¬ a = L) (h1 : ¬ (97 ≤ B a ∧ B a ≤ 122)) (h2 : ¬ (48 ≤ B a ∧ B a ≤ 57)) : kK B L a = (if B a = 59 then 3 else 4) ∧ kE B L a = a + 1 := by unfold kK kE; rw [if_neg h, if_neg h1, if_neg h2, if_neg h, if_neg h1, if_neg h2]; exact ⟨rfl, rfl⟩
