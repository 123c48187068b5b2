/-! WALK: how many unlike sums -/
theorem crs_up {kd s f f' : Int} (h : f ≤ f') : crs kd s f ≤ crs kd s f' := by
  unfold crs
  by_cases e1 : kd = 1
  · rw [if_pos e1, if_pos e1]; omega
  · rw [if_neg e1, if_neg e1]
    by_cases e2 : kd = 2
    · rw [if_pos e2, if_pos e2]; omega
    · rw [if_neg e2, if_neg e2]
      by_cases e3 : kd = 3
      · rw [if_pos e3, if_pos e3]; omega
      · rw [if_neg e3, if_neg e3]; omega
noncomputable def cvN (P : Nat → Prop) : Nat → Nat
  | 0 => 0
  | V + 1 => cvN P V + (if tf (P V) = true then 1 else 0)
theorem cvN_c {P P' : Nat → Prop} (V : Nat) (h : ∀ v, v < V → (P v ↔ P' v)) : cvN P V = cvN P' V := by
  induction V with
  | zero => rfl
  | succ V ih =>
    unfold cvN
    rw [ih (fun v hv => h v (by omega))]
    by_cases g : P V
    · rw [if_pos (tf_t.mpr g), if_pos (tf_t.mpr ((h V (by omega)).mp g))]
    · rw [if_neg (fun z => g (tf_t.mp z)), if_neg (fun z => g ((h V (by omega)).mpr (tf_t.mp z)))]
theorem cvN_0 {P : Nat → Prop} (V : Nat) (h : ∀ v, v < V → ¬ P v) : cvN P V = 0 := by
  induction V with
  | zero => rfl
  | succ V ih =>
    unfold cvN
    rw [ih (fun v hv => h v (by omega)), if_neg (fun z => h V (by omega) (tf_t.mp z))]
theorem cvN_add {P : Nat → Prop} {a : Nat} (V : Nat) (ha : a < V) (h : ¬ P a) : cvN (fun v => P v ∨ v = a) V = cvN P V + 1 := by
  induction V with
  | zero => omega
  | succ V ih =>
    unfold cvN
    by_cases e : a = V
    · subst e
      rw [cvN_c (P := fun v => P v ∨ v = a) (P' := P) a (fun v hv => ⟨fun z => z.elim id (fun z => by omega), fun z => Or.inl z⟩), if_pos (tf_t.mpr (Or.inr rfl)), if_neg (fun z => h (tf_t.mp z))]
    · rw [ih (by omega)]
      by_cases g : P V
      · rw [if_pos (tf_t.mpr (Or.inl g)), if_pos (tf_t.mpr g)]
      · rw [if_neg (fun z => (tf_t.mp z).elim g (fun z => e z.symm)), if_neg (fun z => g (tf_t.mp z))]
theorem cvN_le (P : Nat → Prop) (V : Nat) : cvN P V ≤ V := by
  induction V with
  | zero => exact Nat.le_refl _
  | succ V ih => unfold cvN; split <;> omega
noncomputable def wAll (k w td : Nat → Int) (tn : Nat) : Nat := wbN k w td tn (k 1).toNat
def anR (k w td : Nat → Int) (tn r : Nat) : Prop := ¬ wo (wAll k w td tn) (2 ^ r) = 0
def CBx (k w td : Nat → Int) (tn r x : Nat) : Prop := if k (14 + r) = w 0 then CBf k w td tn r x else CBg k w td tn r x
def wS (k w td : Nat → Int) (tn r x : Nat) : Prop := (anR k w td tn r ∧ (x : Int) = fig k w r (w 0)) ∨ (WR k w td tn r ∧ CBx k w td tn r x)
def uS (k w td : Nat → Int) (tn r n v : Nat) : Prop := ∃ x, x < n ∧ wS k w td tn r x ∧ crs (k (5 + r)) (w 1) (x : Int) = (v : Int)
theorem uS_no {k w td : Nat → Int} {tn r n : Nat} (h : ¬ wS k w td tn r n) (v : Nat) : uS k w td tn r (n + 1) v ↔ uS k w td tn r n v := by
  constructor
  · rintro ⟨x, h1, h2, h3⟩
    by_cases e : x = n
    · subst e; exact absurd h2 h
    · exact ⟨x, by omega, h2, h3⟩
  · rintro ⟨x, h1, h2, h3⟩; exact ⟨x, by omega, h2, h3⟩
theorem uS_yes {k w td : Nat → Int} {tn r n : Nat} (h : wS k w td tn r n) (v : Nat) : uS k w td tn r (n + 1) v ↔ (uS k w td tn r n v ∨ crs (k (5 + r)) (w 1) (n : Int) = (v : Int)) := by
  constructor
  · rintro ⟨x, h1, h2, h3⟩
    by_cases e : x = n
    · subst e; exact Or.inr h3
    · exact Or.inl ⟨x, by omega, h2, h3⟩
  · rintro (⟨x, h1, h2, h3⟩ | h3)
    · exact ⟨x, by omega, h2, h3⟩
    · exact ⟨n, by omega, h, h3⟩
/-- the latest sum, of the figures before n -/
def laS (k w td : Nat → Int) (tn r n : Nat) (L : Int) : Prop := (L = -1 ∧ ∀ x, x < n → ¬ wS k w td tn r x) ∨ ∃ x, x < n ∧ wS k w td tn r x ∧ L = crs (k (5 + r)) (w 1) (x : Int) ∧ ∀ y, y < n → wS k w td tn r y → crs (k (5 + r)) (w 1) (y : Int) ≤ L
theorem la_no {k w td : Nat → Int} {tn r n : Nat} {L : Int} (hL : laS k w td tn r n L) (h : ¬ wS k w td tn r n) : laS k w td tn r (n + 1) L := by
  rcases hL with ⟨h1, h2⟩ | ⟨x, h1, h2, h3, h4⟩
  · refine Or.inl ⟨h1, fun x hx => ?_⟩
    by_cases e : x = n
    · subst e; exact h
    · exact h2 x (by omega)
  · refine Or.inr ⟨x, by omega, h2, h3, fun y hy hy2 => ?_⟩
    by_cases e : y = n
    · subst e; exact absurd hy2 h
    · exact h4 y (by omega) hy2
theorem la_yes {k w td : Nat → Int} {tn r n : Nat} (h : wS k w td tn r n) : laS k w td tn r (n + 1) (crs (k (5 + r)) (w 1) (n : Int)) :=
  Or.inr ⟨n, by omega, h, rfl, fun y hy _ => crs_up (by omega)⟩
theorem la_same {k w td : Nat → Int} {tn r n : Nat} {L : Int} (hL : laS k w td tn r n L) (h : wS k w td tn r n) (e : crs (k (5 + r)) (w 1) (n : Int) = L) : cvN (uS k w td tn r (n + 1)) 1000 = cvN (uS k w td tn r n) 1000 := by
  refine cvN_c 1000 (fun v hv => ?_)
  rw [uS_yes h]
  constructor
  · rintro (z | z)
    · exact z
    · rcases hL with ⟨h1, h2⟩ | ⟨x, h1, h2, h3, h4⟩
      · have := crs_ge (k (5 + r)) (w 1) (n : Int); omega
      · exact ⟨x, h1, h2, by omega⟩
  · exact fun z => Or.inl z
theorem la_new {k w td : Nat → Int} {tn r n : Nat} {L : Int} (hL : laS k w td tn r n L) (h : wS k w td tn r n) (e : ¬ crs (k (5 + r)) (w 1) (n : Int) = L) : cvN (uS k w td tn r (n + 1)) 1000 = cvN (uS k w td tn r n) 1000 + 1 := by
  have c0 := crs_ge (k (5 + r)) (w 1) (n : Int)
  have c9 := crs_le (k (5 + r)) (w 1) (n : Int)
  obtain ⟨a, ea⟩ := Int.eq_ofNat_of_zero_le c0
  have hno : ¬ uS k w td tn r n a := by
    rintro ⟨y, hy, hy2, hy3⟩
    rcases hL with ⟨h1, h2⟩ | ⟨x, h1, h2, h3, h4⟩
    · exact h2 y hy hy2
    · have g1 := h4 y hy hy2
      have g2 := crs_up (kd := k (5 + r)) (s := w 1) (f := (x : Int)) (f' := (n : Int)) (by omega)
      omega
  rw [← cvN_add 1000 (by omega) hno]
  refine cvN_c 1000 (fun v hv => ?_)
  rw [uS_yes h]
  constructor
  · rintro (z | z)
    · exact Or.inl z
    · exact Or.inr (by omega)
  · rintro (z | z)
    · exact Or.inl z
    · exact Or.inr (by omega)
noncomputable def nWk (k w td : Nat → Int) (tn r : Nat) : Int := if mayb k w r (w 0) = true then ((cvN (uS k w td tn r 41) 1000 : Nat) : Int) else 0
noncomputable def wk (k w td : Nat → Int) (tn : Nat) : Nat → Int × Int
  | 0 => (-4, 0)
  | r + 1 => if (wk k w td tn r).2 < nWk k w td tn r then ((r : Int), nWk k w td tn r) else wk k w td tn r
theorem wk_ok (k w td : Nat → Int) (tn r : Nat) : ((wk k w td tn r).1 = -4 ∧ (wk k w td tn r).2 = 0) ∨ (0 ≤ (wk k w td tn r).1 ∧ (0 < (wk k w td tn r).2 ∧ (wk k w td tn r).2 ≤ 1000)) := by
  induction r with
  | zero => exact Or.inl ⟨rfl, rfl⟩
  | succ r ih =>
    have e : wk k w td tn (r + 1) = if (wk k w td tn r).2 < nWk k w td tn r then ((r : Int), nWk k w td tn r) else wk k w td tn r := rfl
    rw [e]
    by_cases g : (wk k w td tn r).2 < nWk k w td tn r
    · rw [if_pos g]
      have h1 : nWk k w td tn r ≤ 1000 := by
        unfold nWk; have := cvN_le (uS k w td tn r 41) 1000; split <;> omega
      exact Or.inr ⟨by dsimp only; omega, by dsimp only; omega⟩
    · rw [if_neg g]; exact ih
theorem wk_0 {k w td : Nat → Int} {tn : Nat} (hk : 0 ≤ k 1 ∧ k 1 ≤ 9) (h : wAll k w td tn = 0) (n : Nat) (hn : n ≤ (k 1).toNat) : wk k w td tn n = (-4, 0) := by
  induction n with
  | zero => rfl
  | succ r ih =>
    have e : wk k w td tn (r + 1) = if (wk k w td tn r).2 < nWk k w td tn r then ((r : Int), nWk k w td tn r) else wk k w td tn r := rfl
    rw [e, ih (by omega)]
    have h0 : nWk k w td tn r = 0 := by
      unfold nWk
      have : cvN (uS k w td tn r 41) 1000 = 0 := cvN_0 1000 (fun v _ => by
        rintro ⟨x, _, h2, _⟩
        rcases h2 with ⟨h2, _⟩ | ⟨h2, _⟩
        · refine h2 ?_
          unfold wo; rw [h, Nat.zero_and]
        · have := (wbN_bit k w td tn (k 1).toNat r).mpr ⟨by omega, h2⟩
          unfold wAll at h
          rw [h, Nat.zero_testBit] at this
          exact absurd this (by decide))
      rw [this]; split <;> rfl
    rw [h0, if_neg (by dsimp only; omega)]
