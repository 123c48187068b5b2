/-! WHAT A COUNTY IS, as numbers: k the 59 of the county, w the 22 of how it stands (as the reference lays them) -/
def sh (w : Nat → Int) (r : Nat) : Prop := (w 3).toNat.testBit r = true
def shp (k w : Nat → Int) : Prop := 0 ≤ w 3 ∧ (w 3).toNat < 2 ^ (k 1).toNat
def Inv (k w : Nat → Int) : Prop := (2 ≤ k 0 ∧ k 0 ≤ 6) ∧ (0 ≤ k 1 ∧ k 1 ≤ 9) ∧ (0 ≤ k 2 ∧ k 2 ≤ 9) ∧
  (∀ r : Nat, (r : Int) < k 1 → (0 ≤ k (5 + r) ∧ k (5 + r) ≤ 3) ∧ (0 ≤ k (14 + r) ∧ k (14 + r) < k 0) ∧ (0 ≤ k (23 + r) ∧ k (23 + r) < k 0) ∧ k (14 + r) ≠ k (23 + r) ∧ (0 ≤ w (4 + r) ∧ w (4 + r) ≤ 40) ∧ (0 ≤ w (13 + r) ∧ w (13 + r) ≤ 40)) ∧
  (∀ i : Nat, (i : Int) < k 2 → 0 ≤ k (50 + i) ∧ k (50 + i) < k 1) ∧ (0 ≤ w 0 ∧ w 0 < k 0) ∧ (0 ≤ w 1 ∧ w 1 ≤ 999) ∧ shp k w
def RC (h : AH) (k w : Nat → Int) : Prop := GC h ∧ (gi h 14 5 = k 0 ∧ gi h 14 6 = k 1 ∧ gi h 14 7 = k 2) ∧ (gi h 15 0 = w 0 ∧ gi h 15 1 = w 1 ∧ gi h 15 2 = w 2 ∧ gi h 15 3 = w 3) ∧
  (∀ r : Nat, (r : Int) < k 1 → gi h 18 r = k (5 + r) ∧ gi h 19 r = k (14 + r) ∧ gi h 20 r = k (23 + r) ∧ gi h 16 r = w (4 + r) ∧ gi h 17 r = w (13 + r)) ∧
  (∀ i : Nat, (i : Int) < k 2 → gi h 21 i = k (50 + i))
/-- two heaps that differ in cells of P alone, and in numbers alone -/
def Sm (P : Nat → Prop) (h h' : AH) : Prop := cn h' = cn h ∧ gr h' = gr h ∧ ∀ a, ¬ P a → (∀ j, gi h' a j = gi h a j) ∧ ∀ j, gl h' a j = gl h a j
theorem Sm.rfl' {P : Nat → Prop} {h : AH} : Sm P h h := ⟨rfl, rfl, fun _ _ => ⟨fun _ => rfl, fun _ => rfl⟩⟩
theorem Sm.trans {P : Nat → Prop} {a b c : AH} (h1 : Sm P a b) (h2 : Sm P b c) : Sm P a c := ⟨h2.1.trans h1.1, h2.2.1.trans h1.2.1, fun x hx => ⟨fun j => ((h2.2.2 x hx).1 j).trans ((h1.2.2 x hx).1 j), fun j => ((h2.2.2 x hx).2 j).trans ((h1.2.2 x hx).2 j)⟩⟩
theorem Sm.mono {P P' : Nat → Prop} {a b : AH} (h1 : Sm P a b) (h : ∀ x, P x → P' x) : Sm P' a b := ⟨h1.1, h1.2.1, fun x hx => h1.2.2 x (fun z => hx (h x z))⟩
theorem Sm.si {P : Nat → Prop} {h h' : AH} (hs : Sm P h h') {o j : Nat} {v : Int} (hP : P o) : Sm P h (si h' o j v) := by
  refine ⟨hs.1, hs.2.1, fun a ha => ⟨fun i => ?_, (hs.2.2 a ha).2⟩⟩
  rw [gi_si, if_neg (show ¬ (a = o ∧ i = j) from fun q => ha (q.1 ▸ hP))]
  exact (hs.2.2 a ha).1 i
theorem Sm.sl {P : Nat → Prop} {h h' : AH} (hs : Sm P h h') {o j : Nat} {v : Int} (hP : P o) : Sm P h (sl h' o j v) := by
  refine ⟨hs.1, hs.2.1, fun a ha => ⟨(hs.2.2 a ha).1, fun i => ?_⟩⟩
  rw [gl_sl, if_neg (show ¬ (a = o ∧ i = j) from fun q => ha (q.1 ▸ hP))]
  exact (hs.2.2 a ha).2 i
theorem Sm.cpi {P : Nat → Prop} {h h' : AH} (hs : Sm P h h') {s sp d dp n : Nat} (hP : P d) : Sm P h (cpi h' s sp d dp n) := by
  refine ⟨hs.1, hs.2.1, fun a ha => ⟨fun i => ?_, (hs.2.2 a ha).2⟩⟩
  rw [gi_cpi, if_neg (show ¬ (a = d ∧ dp ≤ i ∧ i < dp + n) from fun q => ha (q.1 ▸ hP))]
  exact (hs.2.2 a ha).1 i
theorem GC.sm {P : Nat → Prop} {h h' : AH} (hs : Sm P h h') (hg : GC h) : GC h' := ⟨hs.1.trans hg.1, fun q hq => by rw [hs.2.1]; exact hg.2 q hq⟩
theorem GM.sm {P : Nat → Prop} {h h' : AH} (hs : Sm P h h') (hg : GM h) : GM h' := ⟨hs.1.trans hg.1, fun q hq => by rw [hs.2.1]; exact hg.2 q hq⟩
theorem RC.gx {h h' : AH} {k w : Nat → Int} (hR : RC h k w) (hg : GC h') (hi : ∀ a, 14 ≤ a → a ≤ 21 → ∀ j, gi h' a j = gi h a j) : RC h' k w := by
  obtain ⟨-, h2, h3, h4, h5⟩ := hR
  have e14 := hi 14 (by omega) (by omega)
  have e15 := hi 15 (by omega) (by omega)
  refine ⟨hg, by rw [e14, e14, e14]; exact h2, by rw [e15, e15, e15, e15]; exact h3, fun r hr => ?_, fun i hi' => ?_⟩
  · rw [hi 18 (by omega) (by omega), hi 19 (by omega) (by omega), hi 20 (by omega) (by omega), hi 16 (by omega) (by omega), hi 17 (by omega) (by omega)]
    exact h4 r hr
  · rw [hi 21 (by omega) (by omega)]
    exact h5 i hi'
theorem RC.sm {P : Nat → Prop} {h h' : AH} {k w : Nat → Int} (hR : RC h k w) (hs : Sm P h h') (hP : ∀ a, P a → a < 14 ∨ 21 < a) : RC h' k w :=
  hR.gx (hR.1.sm hs) (fun a h1 h2 j => (hs.2.2 a (fun z => by have := hP a z; omega)).1 j)
theorem RC.si {h : AH} {k w : Nat → Int} (hR : RC h k w) {o j : Nat} {v : Int} (ho : o < 14 ∨ 21 < o) : RC (si h o j v) k w :=
  hR.sm (P := fun a => a = o) (Sm.si Sm.rfl' rfl) (fun a ha => by subst ha; exact ho)
/-- the other end, the figure, the change and the sum of a crossing -/
def oth (k : Nat → Int) (r : Nat) (p : Int) : Int := if k (14 + r) = p then k (23 + r) else k (14 + r)
def fig (k w : Nat → Int) (r : Nat) (p : Int) : Int := if k (14 + r) = p then w (4 + r) else w (13 + r)
def chg (k w : Nat → Int) (r : Nat) (p : Int) : Int := if k (5 + r) = 3 then 2 * (fig k w r p - 20) else fig k w r p - 20
def crs (kd s f : Int) : Int := max 0 (min 999 (if kd = 1 then (s + (f - 20) + 2) / 5 * 5 else if kd = 2 then s + (f - 20) - 1 else if kd = 3 then s + (f - 20) + (f - 20) else s + (f - 20)))
def lds (k : Nat → Int) (r : Nat) (p : Int) : Prop := k (14 + r) = p ∨ k (23 + r) = p
def may (k w : Nat → Int) (r : Nat) (p : Int) : Prop := lds k r p ∧ ¬ sh w r
theorem crs_ge (kd s f : Int) : 0 ≤ crs kd s f := by unfold crs; omega
theorem crs_le (kd s f : Int) : crs kd s f ≤ 999 := by unfold crs; omega
theorem oth_ok {k w : Nat → Int} (hI : Inv k w) {r : Nat} (hr : (r : Int) < k 1) (p : Int) : 0 ≤ oth k r p ∧ oth k r p < k 0 := by
  obtain ⟨-, -, -, h4, -⟩ := hI
  have := h4 r hr
  unfold oth; split <;> omega
theorem fig_ok {k w : Nat → Int} (hI : Inv k w) {r : Nat} (hr : (r : Int) < k 1) (p : Int) : 0 ≤ fig k w r p ∧ fig k w r p ≤ 40 := by
  obtain ⟨-, -, -, h4, -⟩ := hI
  have := h4 r hr
  unfold fig; split <;> omega
theorem chg_ok {k w : Nat → Int} (hI : Inv k w) {r : Nat} (hr : (r : Int) < k 1) (p : Int) : -40 ≤ chg k w r p ∧ chg k w r p ≤ 40 := by
  have := fig_ok hI hr p
  unfold chg; split <;> omega
/-! bits -/
theorem nat_iand {a b : Int} (ha : 0 ≤ a) (ha' : a < 2147483648) (hb : 0 ≤ b) (hb' : b < 2147483648) : iand a b = ((a.toNat &&& b.toNat : Nat) : Int) := by
  obtain ⟨m, rfl⟩ := Int.eq_ofNat_of_zero_le ha
  obtain ⟨n, rfl⟩ := Int.eq_ofNat_of_zero_le hb
  unfold iand
  show (Int32.ofInt (m : Int) &&& Int32.ofInt (n : Int)).toBitVec.toInt = _
  rw [Int32.toBitVec_and]
  show (BitVec.ofInt 32 (m : Int) &&& BitVec.ofInt 32 (n : Int)).toInt = _
  have e : ∀ x : Nat, x < 2147483648 → (BitVec.ofInt 32 (x : Int)).toNat = x := fun x hx => by simp; omega
  have hm : m < 2147483648 := by omega
  have hn : n < 2147483648 := by omega
  have hl : m &&& n ≤ m := Nat.and_le_left
  rw [BitVec.toInt_eq_toNat_of_lt (by rw [BitVec.toNat_and, e m hm, e n hn]; omega), BitVec.toNat_and, e m hm, e n hn]
  simp
theorem nat_ior {a b : Int} (ha : 0 ≤ a) (ha' : a < 1073741824) (hb : 0 ≤ b) (hb' : b < 1073741824) : ior a b = ((a.toNat ||| b.toNat : Nat) : Int) := by
  obtain ⟨m, rfl⟩ := Int.eq_ofNat_of_zero_le ha
  obtain ⟨n, rfl⟩ := Int.eq_ofNat_of_zero_le hb
  unfold ior
  show (Int32.ofInt (m : Int) ||| Int32.ofInt (n : Int)).toBitVec.toInt = _
  rw [Int32.toBitVec_or]
  show (BitVec.ofInt 32 (m : Int) ||| BitVec.ofInt 32 (n : Int)).toInt = _
  have e : ∀ x : Nat, x < 2147483648 → (BitVec.ofInt 32 (x : Int)).toNat = x := fun x hx => by simp; omega
  have hm : m < 2 ^ 30 := by omega
  have hn : n < 2 ^ 30 := by omega
  have hl : m ||| n < 2 ^ 30 := Nat.or_lt_two_pow hm hn
  rw [BitVec.toInt_eq_toNat_of_lt (by rw [BitVec.toNat_or, e m (by omega), e n (by omega)]; omega), BitVec.toNat_or, e m (by omega), e n (by omega)]
  simp
theorem b_all (r : Nat) (hr : r < 10) : ishl 1 (r : Int) = ((2 ^ r : Nat) : Int) ∧ wr (ishl 1 (r : Int) - 1) = ((2 ^ r - 1 : Nat) : Int) := by
  have h : ∀ r : Fin 10, ishl 1 ((r : Nat) : Int) = ((2 ^ (r : Nat) : Nat) : Int) ∧ Int.bmod (ishl 1 ((r : Nat) : Int) - 1) 4294967296 = ((2 ^ (r : Nat) - 1 : Nat) : Int) := by decide +kernel
  rw [wr_def]
  exact h ⟨r, hr⟩
theorem b_shut (x r : Nat) (hx : x < 512) (hr : r < 9) : (iand (x : Int) (ishl 1 (r : Int)) = 0 ↔ x.testBit r = false) ∧ (iand (ishr (x : Int) (r : Int)) 1 = if x.testBit r then 1 else 0) ∧ ixor (x : Int) (ishl 1 (r : Int)) = ((x ^^^ 2 ^ r : Nat) : Int) := by
  have h : ∀ x : Fin 512, ∀ r : Fin 9, (iand ((x : Nat) : Int) (ishl 1 ((r : Nat) : Int)) = 0 ↔ (x : Nat).testBit r = false) ∧ (iand (ishr ((x : Nat) : Int) ((r : Nat) : Int)) 1 = if (x : Nat).testBit r then 1 else 0) ∧ ixor ((x : Nat) : Int) (ishl 1 ((r : Nat) : Int)) = (((x : Nat) ^^^ 2 ^ (r : Nat) : Nat) : Int) := by decide +kernel
  exact h ⟨x, hx⟩ ⟨r, hr⟩
theorem pow_le_512 {n : Nat} (h : n ≤ 9) : 2 ^ n ≤ 512 := by
  have h2 : ∀ n : Fin 10, 2 ^ (n : Nat) ≤ 512 := by decide
  exact h2 ⟨n, by omega⟩
theorem Inv.w3 {k w : Nat → Int} (hI : Inv k w) : ∃ x : Nat, w 3 = (x : Int) ∧ x < 512 ∧ x < 2 ^ (k 1).toNat := by
  obtain ⟨-, h2, -, -, -, -, -, h8, h9⟩ := hI
  obtain ⟨x, hx⟩ := Int.eq_ofNat_of_zero_le h8
  rw [hx] at h9
  have := pow_le_512 (n := (k 1).toNat) (by omega)
  exact ⟨x, hx, by simp at h9; omega, by simpa using h9⟩
theorem nc_2 : ((2 : Nat) : Int) = 2 := rfl
theorem nc_5 : ((5 : Nat) : Int) = 5 := rfl
theorem nc_6 : ((6 : Nat) : Int) = 6 := rfl
theorem nc_8 : ((8 : Nat) : Int) = 8 := rfl
theorem nc_9 : ((9 : Nat) : Int) = 9 := rfl
theorem nc_10 : ((10 : Nat) : Int) = 10 := rfl
theorem nc_22 : ((22 : Nat) : Int) = 22 := rfl
theorem nc_30 : ((30 : Nat) : Int) = 30 := rfl
theorem nc_41 : ((41 : Nat) : Int) = 41 := rfl
theorem nc_44 : ((44 : Nat) : Int) = 44 := rfl
theorem nc_59 : ((59 : Nat) : Int) = 59 := rfl
theorem nc_176 : ((176 : Nat) : Int) = 176 := rfl
theorem nc_200 : ((200 : Nat) : Int) = 200 := rfl
theorem nc_1000 : ((1000 : Nat) : Int) = 1000 := rfl
theorem nc_2886 : ((2886 : Nat) : Int) = 2886 := rfl
theorem lc_lt (a b : Int) : lcm3 a b < 0 ↔ a < b := by unfold lcm3; (repeat' split) <;> omega
theorem lc_gt (a b : Int) : 0 < lcm3 a b ↔ b < a := by unfold lcm3; (repeat' split) <;> omega
theorem lc_le (a b : Int) : lcm3 a b ≤ 0 ↔ a ≤ b := by unfold lcm3; (repeat' split) <;> omega
theorem lc_eq (a b : Int) : lcm3 a b = 0 ↔ a = b := by unfold lcm3; (repeat' split) <;> omega
theorem nn0 (n : Nat) : 0 ≤ (n : Int) := Int.ofNat_nonneg n
