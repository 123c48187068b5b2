/-! RING: what can be come to, with what CHANGES together -/
noncomputable def tf (P : Prop) : Bool := @decide P (Classical.propDecidable P)
theorem tf_t {P : Prop} : tf P = true ↔ P := by
  unfold tf
  constructor
  · intro h; exact @of_decide_eq_true P (Classical.propDecidable P) h
  · intro h; exact @decide_eq_true P (Classical.propDecidable P) h
abbrev RS : Type := Int → Int → Prop
def car6 (k w : Nat → Int) (X Y : RS) (r : Nat) (a b : Int) : RS := fun q v => Y q v ∨ (q = b ∧ X a (v - chg k w r a))
def stpN (k w : Nat → Int) (X : RS) : Nat → RS
  | 0 => fun _ _ => False
  | r + 1 => if (w 3).toNat.testBit r = true then stpN k w X r else car6 k w X (car6 k w X (stpN k w X r) r (k (14 + r)) (k (23 + r))) r (k (23 + r)) (k (14 + r))
def rch (k w : Nat → Int) (p : Int) : Nat → RS
  | 0 => fun q v => q = p ∧ v = 0
  | s + 1 => stpN k w (rch k w p s) (k 1).toNat
theorem stpN_ok {k w : Nat → Int} (hI : Inv k w) {X : RS} {B : Int} (hX : ∀ q v, X q v → -B ≤ v ∧ v ≤ B) (n : Nat) (hn : (n : Int) ≤ k 1) (q v : Int) (h : stpN k w X n q v) : (-B - 40 ≤ v ∧ v ≤ B + 40) ∧ 0 ≤ q ∧ q < k 0 := by
  induction n generalizing q v with
  | zero => exact h.elim
  | succ r ih =>
    have hE := hI.2.2.2.1 r (by omega)
    have c1 := chg_ok hI (r := r) (by omega) (k (14 + r))
    have c2 := chg_ok hI (r := r) (by omega) (k (23 + r))
    unfold stpN at h
    split at h
    · exact ih (by omega) q v h
    · rcases h with (h | ⟨rfl, h⟩) | ⟨rfl, h⟩
      · exact ih (by omega) q v h
      · have := hX _ _ h; omega
      · have := hX _ _ h; omega
theorem rch_ok {k w : Nat → Int} (hI : Inv k w) {p : Int} (hp : 0 ≤ p ∧ p < k 0) (s : Nat) (q v : Int) (h : rch k w p s q v) : (-(40 * (s : Int)) ≤ v ∧ v ≤ 40 * (s : Int)) ∧ 0 ≤ q ∧ q < k 0 := by
  induction s generalizing q v with
  | zero => obtain ⟨rfl, rfl⟩ := h; omega
  | succ s ih =>
    have := stpN_ok hI (B := 40 * (s : Int)) (fun q v h => (ih q v h).1) (k 1).toNat (by have := hI.2.1; omega) q v h
    omega
def nzs (k w : Nat → Int) (p : Int) (s : Nat) : Prop := ∃ v, v ≠ 0 ∧ rch k w p s p v
noncomputable def rgN (k w : Nat → Int) (p : Int) : Nat → Int
  | 0 => 1000000
  | s + 1 => if rgN k w p s = 1000000 ∧ tf (nzs k w p (s + 1)) = true then ((s + 1 : Nat) : Int) else rgN k w p s
theorem rgN_spec (k w : Nat → Int) (p : Int) (n : Nat) (hn : n < 1000) : (rgN k w p n = 1000000 ∧ ∀ s, 1 ≤ s → s ≤ n → ¬ nzs k w p s) ∨ ∃ m : Nat, rgN k w p n = m ∧ 1 ≤ m ∧ m ≤ n ∧ nzs k w p m ∧ ∀ s, 1 ≤ s → s < m → ¬ nzs k w p s := by
  induction n with
  | zero => exact Or.inl ⟨rfl, fun s h1 h2 => by omega⟩
  | succ n ih =>
    have e : rgN k w p (n + 1) = if rgN k w p n = 1000000 ∧ tf (nzs k w p (n + 1)) = true then ((n + 1 : Nat) : Int) else rgN k w p n := rfl
    rw [e]
    rcases ih (by omega) with ⟨h1, h2⟩ | ⟨m, h1, h2, h3, h4, h5⟩
    · by_cases z : nzs k w p (n + 1)
      · rw [if_pos ⟨h1, tf_t.mpr z⟩]
        exact Or.inr ⟨n + 1, rfl, by omega, by omega, z, fun s a b => h2 s a (by omega)⟩
      · rw [if_neg (fun y => z (tf_t.mp y.2))]
        refine Or.inl ⟨h1, fun s a b => ?_⟩
        by_cases g : s = n + 1
        · rw [g]; exact z
        · exact h2 s a (by omega)
    · rw [if_neg (fun y => by have := y.1; omega)]
      exact Or.inr ⟨m, h1, h2, by omega, h4, h5⟩
theorem rgN_at {k w : Nat → Int} {p : Int} {s : Nat} (h1 : 1 ≤ s) (h6 : s ≤ 6) (hz : nzs k w p s) (hb : ∀ t, 1 ≤ t → t < s → ¬ nzs k w p t) : rgN k w p 6 = s := by
  rcases rgN_spec k w p 6 (by omega) with ⟨e1, e2⟩ | ⟨m, e1, e2, e3, e4, e5⟩
  · exact absurd hz (e2 s h1 h6)
  · have : m = s := by
      rcases Nat.lt_trichotomy m s with g | g | g
      · exact absurd e4 (hb m e2 g)
      · exact g
      · exact absurd hz (e5 s h1 g)
    rw [e1, this]
theorem rgN_far {k w : Nat → Int} {p : Int} {s : Nat} (h6 : s ≤ 7) (hb : ∀ t, 1 ≤ t → t < s → ¬ nzs k w p t) : (s : Int) ≤ rgN k w p 6 := by
  rcases rgN_spec k w p 6 (by omega) with ⟨e1, e2⟩ | ⟨m, e1, e2, e3, e4, e5⟩
  · omega
  · rcases Nat.lt_or_ge m s with g | g
    · exact absurd e4 (hb m e2 g)
    · omega
theorem rgN_none {k w : Nat → Int} {p : Int} (hb : ∀ t, 1 ≤ t → t < 7 → ¬ nzs k w p t) : rgN k w p 6 = 1000000 := by
  rcases rgN_spec k w p 6 (by omega) with ⟨e1, e2⟩ | ⟨m, e1, e2, e3, e4, e5⟩
  · exact e1
  · exact absurd e4 (hb m e2 (by omega))
/-- over the PLACES: the least, and from where; of the reference, of the program -/
noncomputable def rgM (k w : Nat → Int) : Nat → Int × Int
  | 0 => (1000000, -4)
  | p + 1 => if rgN k w p 6 < (rgM k w p).1 then (rgN k w p 6, (p : Int)) else rgM k w p
noncomputable def rgC (k w : Nat → Int) (S : Int) : Nat → Int × Int
  | 0 => (7, S)
  | p + 1 => if rgN k w p 6 < (rgC k w S p).1 then (rgN k w p 6, (p : Int)) else rgC k w S p
theorem rgMC (k w : Nat → Int) (S : Int) (p : Nat) : ((rgM k w p).1 = 1000000 ∧ rgC k w S p = (7, S)) ∨ ((1 ≤ (rgM k w p).1 ∧ (rgM k w p).1 ≤ 6) ∧ rgC k w S p = rgM k w p) := by
  induction p with
  | zero => exact Or.inl ⟨rfl, rfl⟩
  | succ p ih =>
    have eM : rgM k w (p + 1) = if rgN k w p 6 < (rgM k w p).1 then (rgN k w p 6, (p : Int)) else rgM k w p := rfl
    have eC : rgC k w S (p + 1) = if rgN k w p 6 < (rgC k w S p).1 then (rgN k w p 6, (p : Int)) else rgC k w S p := rfl
    have hr : rgN k w p 6 = 1000000 ∨ (1 ≤ rgN k w p 6 ∧ rgN k w p 6 ≤ 6) := by
      rcases rgN_spec k w p 6 (by omega) with ⟨e1, e2⟩ | ⟨m, e1, e2, e3, e4, e5⟩
      · exact Or.inl e1
      · exact Or.inr (by omega)
    rw [eM, eC]
    rcases ih with ⟨h1, h2⟩ | ⟨h1, h2⟩
    · rw [h1, h2]
      rcases hr with g | g
      · rw [if_neg (by omega), if_neg (by dsimp only; omega)]; exact Or.inl ⟨h1, rfl⟩
      · rw [if_pos (by omega), if_pos (by dsimp only; omega)]; exact Or.inr ⟨g, rfl⟩
    · rw [h2]
      by_cases g : rgN k w p 6 < (rgM k w p).1
      · rw [if_pos g]; exact Or.inr ⟨by dsimp only; omega, rfl⟩
      · rw [if_neg g]; exact Or.inr ⟨h1, rfl⟩
