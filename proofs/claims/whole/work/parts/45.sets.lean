/-! sets of ROADS as bits -/
def wo (n s : Nat) : Nat := n &&& (2 ^ 9 - (s + 1))
theorem hi_bit {x i : Nat} (hx : x < 512) (hi : 9 ≤ i) : x.testBit i = false := by
  refine Nat.testBit_lt_two_pow ?_
  have h3 : 2 ^ 9 ≤ 2 ^ i := Nat.pow_le_pow_right (by decide) hi
  omega
theorem wo_bit {n s : Nat} (hs : s < 512) (i : Nat) (hi : i < 9) : (wo n s).testBit i = (n.testBit i && !s.testBit i) := by
  unfold wo
  rw [Nat.testBit_and, Nat.testBit_two_pow_sub_succ (by omega), decide_eq_true hi]; rfl
theorem wo_lt {n s : Nat} (hn : n < 512) : wo n s < 512 := by
  unfold wo
  have h : n &&& (2 ^ 9 - (s + 1)) ≤ n := Nat.and_le_left
  omega
theorem ixor_m1 (s : Nat) (hs : s < 512) : ixor (s : Int) (-1) = -((s : Int) + 1) := by
  have h : ∀ s : Fin 512, ixor ((s : Nat) : Int) (-1) = -(((s : Nat) : Int) + 1) := by decide +kernel
  exact h ⟨s, hs⟩
theorem nat_andnot {n s : Nat} (hn : n < 512) (hs : s < 512) : iand (n : Int) (ixor (s : Int) (-1)) = ((wo n s : Nat) : Int) := by
  rw [ixor_m1 s hs]
  unfold iand
  show (Int32.ofInt (n : Int) &&& Int32.ofInt (-((s : Int) + 1))).toBitVec.toInt = _
  rw [Int32.toBitVec_and]
  show (BitVec.ofInt 32 (n : Int) &&& BitVec.ofInt 32 (-((s : Int) + 1))).toInt = _
  have e1 : (BitVec.ofInt 32 (n : Int)).toNat = n := by simp; omega
  have e2 : (BitVec.ofInt 32 (-((s : Int) + 1))).toNat = 2 ^ 32 - (s + 1) := by rw [BitVec.toNat_ofInt]; omega
  have e3 : n &&& (2 ^ 32 - (s + 1)) = wo n s := by
    refine Nat.eq_of_testBit_eq (fun i => ?_)
    unfold wo
    rw [Nat.testBit_and, Nat.testBit_and, Nat.testBit_two_pow_sub_succ (by omega), Nat.testBit_two_pow_sub_succ (by omega)]
    by_cases hi : i < 9
    · rw [decide_eq_true hi, decide_eq_true (show i < 32 by omega)]
    · rw [hi_bit hn (by omega)]; rfl
  have hl := wo_lt (s := s) hn
  rw [BitVec.toInt_eq_toNat_of_lt (by rw [BitVec.toNat_and, e1, e2, e3]; omega), BitVec.toNat_and, e1, e2, e3]
theorem wo_zero {n s : Nat} (hn : n < 512) (hs : s < 512) : wo n s = 0 ↔ ∀ i, i < 9 → n.testBit i = true → s.testBit i = true := by
  constructor
  · intro h i hi hb
    have e := wo_bit (n := n) hs i hi
    rw [h, hb, Nat.zero_testBit] at e
    cases hz : s.testBit i
    · rw [hz] at e; exact absurd e (by decide)
    · rfl
  · intro h
    refine Nat.eq_of_testBit_eq (fun i => ?_)
    rw [Nat.zero_testBit]
    by_cases hi : i < 9
    · rw [wo_bit hs i hi]
      cases hz : n.testBit i
      · rfl
      · rw [h i hi hz]; rfl
    · exact hi_bit (wo_lt hn) (by omega)
theorem sum_le' (l : List Nat) (f g : Nat → Nat) (h : ∀ r, r ∈ l → f r ≤ g r) : (l.map f).sum ≤ (l.map g).sum := by
  induction l with
  | nil => exact Nat.le_refl _
  | cons a l ih =>
    simp only [List.map_cons, List.sum_cons]
    have h1 := h a (by simp)
    have h2 := ih (fun r hr => h r (by simp [hr]))
    omega
theorem sum_lt' (l : List Nat) (f g : Nat → Nat) (h : ∀ r, r ∈ l → f r ≤ g r) (r : Nat) (hr : r ∈ l) (hlt : f r < g r) : (l.map f).sum < (l.map g).sum := by
  induction l with
  | nil => simp at hr
  | cons a l ih =>
    simp only [List.map_cons, List.sum_cons]
    have h1 := h a (by simp)
    have h2 := sum_le' l f g (fun r hr => h r (by simp [hr]))
    by_cases e : r = a
    · rw [e] at hlt; omega
    · have h3 := ih (fun r hr => h r (by simp [hr])) (by simpa [e] using hr)
      omega
theorem pcn_lt {s n : Nat} (hs : s < 512) (hn : n < 512) (h : ∀ i, i < 9 → s.testBit i = true → n.testBit i = true) (hne : s ≠ n) : pcn s < pcn n := by
  have hex : ∃ i, i < 9 ∧ s.testBit i ≠ n.testBit i := by
    refine Classical.byContradiction (fun z => hne (Nat.eq_of_testBit_eq (fun i => ?_)))
    by_cases hi : i < 9
    · exact Classical.byContradiction (fun y => z ⟨i, hi, y⟩)
    · rw [hi_bit hs (by omega), hi_bit hn (by omega)]
  obtain ⟨i, hi, hd⟩ := hex
  unfold pcn
  refine sum_lt' _ _ _ (fun r hr => ?_) i (List.mem_range.mpr hi) ?_
  · have hr9 := List.mem_range.mp hr
    cases hz : s.testBit r
    · simp
    · rw [h r hr9 hz]; exact Nat.le_refl _
  · cases hz : s.testBit i
    · cases hy : n.testBit i
      · rw [hz, hy] at hd; exact absurd rfl hd
      · decide
    · exact absurd (by rw [hz, h i hi hz]) hd
theorem sub_le {s n : Nat} (hs : s < 512) (hn : n < 512) (h : ∀ i, i < 9 → s.testBit i = true → n.testBit i = true) : s ≤ n := by
  have e : s &&& n = s := by
    refine Nat.eq_of_testBit_eq (fun i => ?_)
    rw [Nat.testBit_and]
    by_cases hi : i < 9
    · cases hz : s.testBit i
      · rfl
      · rw [h i hi hz]; rfl
    · rw [hi_bit hs (by omega)]; rfl
  rw [← e]; exact Nat.and_le_right
