/-! WEATHER: sums over sets, by how many ROADS are in them -/
def cntW (c : Nat → Bool) : Nat → Nat → Nat
  | 0, _ => 0
  | n + 1, j => cntW c n j + (if c n = true ∧ pcn n = j then 1 else 0)
def wsum (c : Nat → Bool) (f : Nat → Nat) : Nat → Nat
  | 0 => 0
  | n + 1 => wsum c f n + (if c n = true then f (pcn n) else 0)
def jsum (g f : Nat → Nat) : Nat → Nat
  | 0 => 0
  | j + 1 => jsum g f j + g j * f j
theorem jsum_0 (f : Nat → Nat) (J : Nat) : jsum (fun _ => 0) f J = 0 := by
  induction J with
  | zero => rfl
  | succ J ih => unfold jsum; rw [ih, Nat.zero_mul]
theorem jsum_ne (g f : Nat → Nat) (P : Prop) [Decidable P] (p J : Nat) (h : ¬ (P ∧ p < J)) : jsum (fun j => g j + (if P ∧ p = j then 1 else 0)) f J = jsum g f J := by
  induction J with
  | zero => rfl
  | succ J ih =>
    unfold jsum
    rw [ih (fun z => h ⟨z.1, by omega⟩), if_neg (fun z => h ⟨z.1, by omega⟩), Nat.add_zero]
theorem jsum_at (g f : Nat → Nat) (P : Prop) [Decidable P] (p J : Nat) (h : P) (hp : p < J) : jsum (fun j => g j + (if P ∧ p = j then 1 else 0)) f J = jsum g f J + f p := by
  induction J with
  | zero => omega
  | succ J ih =>
    unfold jsum
    by_cases e : p = J
    · rw [jsum_ne _ _ _ _ _ (fun z => by omega), if_pos ⟨h, e⟩, e, Nat.add_mul]
      omega
    · rw [ih (by omega), if_neg (fun z => e z.2), Nat.add_zero]
      omega
theorem jsum_w (c : Nat → Bool) (f : Nat → Nat) (J N : Nat) (hc : ∀ n, n < N → c n = true → pcn n < J) : jsum (cntW c N) f J = wsum c f N := by
  induction N with
  | zero =>
    have : cntW c 0 = fun _ => 0 := by funext j; rfl
    rw [this, jsum_0]; rfl
  | succ N ih =>
    have e : cntW c (N + 1) = fun j => cntW c N j + (if c N = true ∧ pcn N = j then 1 else 0) := by funext j; rfl
    have e2 : wsum c f (N + 1) = wsum c f N + (if c N = true then f (pcn N) else 0) := rfl
    rw [e, e2, ← ih (fun n hn => hc n (by omega))]
    by_cases z : c N = true
    · rw [jsum_at _ _ _ _ _ z (hc N (by omega) z), if_pos z]
    · rw [jsum_ne _ _ _ _ _ (fun y => z y.1), if_neg z, Nat.add_zero]
theorem jsum_mono (g f : Nat → Nat) (a b : Nat) (h : a ≤ b) : jsum g f a ≤ jsum g f b := by
  induction b with
  | zero => rw [show a = 0 by omega]; exact Nat.le_refl _
  | succ b ih =>
    by_cases e : a = b + 1
    · rw [e]; exact Nat.le_refl _
    · have := ih (by omega)
      have e2 : jsum g f (b + 1) = jsum g f b + g b * f b := rfl
      omega
theorem wsum_le (c : Nat → Bool) (f : Nat → Nat) (B N : Nat) (hf : ∀ n, n < N → c n = true → f (pcn n) ≤ B) : wsum c f N ≤ N * B := by
  induction N with
  | zero => exact Nat.zero_le _
  | succ N ih =>
    have e2 : wsum c f (N + 1) = wsum c f N + (if c N = true then f (pcn N) else 0) := rfl
    have h1 := ih (fun n hn => hf n (by omega))
    rw [e2, Nat.add_mul]
    by_cases z : c N = true
    · rw [if_pos z]; have := hf N (by omega) z; omega
    · rw [if_neg z]; omega
theorem cntW_le (c : Nat → Bool) (n j : Nat) : cntW c n j ≤ n := by
  induction n with
  | zero => exact Nat.le_refl _
  | succ n ih =>
    have e : cntW c (n + 1) j = cntW c n j + (if c n = true ∧ pcn n = j then 1 else 0) := rfl
    rw [e]; split <;> omega
theorem pow10_le {b t : Nat} (hb : b ≤ 10) (ht : t ≤ 9) : b ^ t ≤ 1000000000 := by
  have h1 : b ^ t ≤ 10 ^ t := Nat.pow_le_pow_left hb t
  have h2 : 10 ^ t ≤ 10 ^ 9 := Nat.pow_le_pow_right (by decide) ht
  have h3 : 10 ^ 9 = 1000000000 := by decide
  omega
def fW (x M j : Nat) : Nat := x ^ j * (10 - x) ^ (M - j)
theorem fW_le {x M j : Nat} (hx : x ≤ 10) (hM : M ≤ 9) (hj : j ≤ M) : fW x M j ≤ 1000000000 := by
  unfold fW
  have h1 : x ^ j ≤ 10 ^ j := Nat.pow_le_pow_left hx j
  have h2 : (10 - x) ^ (M - j) ≤ 10 ^ (M - j) := Nat.pow_le_pow_left (by omega) _
  have h3 : x ^ j * (10 - x) ^ (M - j) ≤ 10 ^ j * 10 ^ (M - j) := Nat.mul_le_mul h1 h2
  rw [← Nat.pow_add, show j + (M - j) = M by omega] at h3
  have h4 := pow10_le (b := 10) (t := M) (by omega) hM
  omega
/-- Euclid comes to 0 in so many steps -/
def eu : Nat → Nat → Nat → Prop
  | 0, _, r => r = 0
  | m + 1, d, r => r = 0 ∨ eu m r (d % r)
theorem eu_mono {m d r : Nat} (h : eu m d r) : eu (m + 1) d r := by
  induction m generalizing d r with
  | zero => exact Or.inl h
  | succ m ih =>
    rcases h with h | h
    · exact Or.inl h
    · exact Or.inr (ih h)
theorem eu_two (n : Nat) : ∀ d r, r < 2 ^ n → eu (2 * n) d r := by
  induction n with
  | zero => intro d r h; show r = 0; have : 2 ^ 0 = 1 := rfl; omega
  | succ n ih =>
    intro d r h
    show r = 0 ∨ eu (2 * n + 1) r (d % r)
    by_cases h0 : r = 0
    · exact Or.inl h0
    · refine Or.inr ?_
      show d % r = 0 ∨ eu (2 * n) (d % r) (r % (d % r))
      by_cases h1 : d % r = 0
      · exact Or.inl h1
      · refine Or.inr (ih _ _ ?_)
        have a1 : d % r < r := Nat.mod_lt _ (by omega)
        have a2 : r % (d % r) < d % r := Nat.mod_lt _ (by omega)
        have a3 : 2 ^ (n + 1) = 2 ^ n * 2 := Nat.pow_succ 2 n
        have a4 : r % (d % r) + (d % r) ≤ r := by
          have b1 := Nat.div_add_mod r (d % r)
          have b2 : 1 ≤ r / (d % r) := Nat.div_pos (by omega) (by omega)
          have b3 : (d % r) * 1 ≤ (d % r) * (r / (d % r)) := Nat.mul_le_mul_left _ b2
          omega
        omega
theorem eu_start {A B : Nat} (hB : 0 < B) (hB2 : B ≤ 1000000000) : eu 62 B A := by
  show A = 0 ∨ eu 61 A (B % A)
  by_cases h : A = 0
  · exact Or.inl h
  · refine Or.inr (eu_mono (eu_two 30 A (B % A) ?_))
    have a1 : B % A ≤ B := Nat.mod_le _ _
    have a2 : 2 ^ 30 = 1073741824 := by decide
    omega
theorem i_tdiv (a b : Nat) : ((a : Nat) : Int).tdiv ((b : Nat) : Int) = ((a / b : Nat) : Int) := rfl
theorem i_tmod (a b : Nat) : ((a : Nat) : Int).tmod ((b : Nat) : Int) = ((a % b : Nat) : Int) := rfl
theorem wl_nat {x : Nat} (h : x < 9223372036854775808) : wl ((x : Nat) : Int) = (x : Int) := wl_id (by omega) (by omega)
theorem wl_mulN {a b : Nat} (h : a * b < 9223372036854775808) : wl ((a : Int) * (b : Int)) = ((a * b : Nat) : Int) := by
  rw [← Int.natCast_mul]; exact wl_nat h
theorem wl_addN {a b : Nat} (h : a + b < 9223372036854775808) : wl ((a : Int) + (b : Int)) = ((a + b : Nat) : Int) := by
  rw [← Int.natCast_add]; exact wl_nat h
def cW (k : Nat → Int) (o a b : Nat) (s : Nat) : Bool := decide (wo s o = 0) && (itN k s (2 ^ a) 6).testBit b
theorem pcn_mono {s n : Nat} (h : ∀ i, i < 9 → s.testBit i = true → n.testBit i = true) : pcn s ≤ pcn n := by
  unfold pcn
  refine sum_le' _ _ _ (fun r hr => ?_)
  cases hz : s.testBit r
  · simp
  · rw [h r (List.mem_range.mp hr) hz]; exact Nat.le_refl _
theorem cW_pcn {k : Nat → Int} {o a b s : Nat} (hs : s < 512) (ho : o < 512) (h : cW k o a b s = true) : pcn s < pcn o + 1 := by
  unfold cW at h
  rw [Bool.and_eq_true, decide_eq_true_eq] at h
  have := pcn_mono ((wo_zero hs ho).mp h.1)
  omega
